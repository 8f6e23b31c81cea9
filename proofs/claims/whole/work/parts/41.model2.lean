set_option maxHeartbeats 4000000 in
set_option maxRecDepth 100000 in
/-- count -/
theorem c_Md_count (l : Launch) (D : va_G) (ca : Nat → ClassId) (ad : Nat → Nat) (M : Nat → Nat → Int32) (n : Nat) (x y : Int32) (hn : n ≤ 6) (hz : M 38 2 = nI n) : xw_Mi l y_Md_count (.code y_Md_count b_Md_count 3 (some .int) :: zG) { frames := 1, cells := 0, slots := 0, locals := 21 } D zCl (zT ca) [.ref (ad 38), .int x, .int y] (zW ca ad M) (fun _ => True) 0 0 (zW ca ad) (fun r M' => ¬ ((¬ x < 0 ∧ x < nI n) ∧ ¬ y < 0 ∧ y < nI 4) ∧ M' = zst M 38 0 (nI 1) ∨ ∃ i w, i < n ∧ w < 4 ∧ x = nI i ∧ y = nI w ∧ M' = zst M 38 0 (nI 0) ∧ r = M 54 (4 * i + w)) := by
  intro sz
  refine xw_met (cc := b_Md_count) (maxL := 3) (ret := (some .int)) (by decide) rfl (Nat.le_of_ble_eq_true rfl) (fun p e s m args below meth c hr hlk hnm hsz hKs C => ?_)
  refine xw_lvE (lv' := [(0, .ref (ad 38)), (1, .int x), (2, .int y)]) rfl ?_
  refine xw_aload_n C 0 d_Md_count_0 rfl rfl (pc' := 1) rfl ?_
  refine xw_iload_n C 1 d_Md_count_1 rfl rfl (pc' := 2) rfl ?_
  refine xw_if_lt C (tgt := 22) d_Md_count_2 (by decide) (pc' := 5) rfl (fun h2 => ?_) (fun h2 => ?_)
  ·
    refine xw_iconst C (v := nI 1) d_Md_count_22 (by decide) (pc' := 23) rfl ?_
    refine xw_goto C (tgt := 27) d_Md_count_23 (by decide) ?_
    refine xw_callVi C (c_Md_refused l D ca ad M 1 (by omega)) ⟨zg_B C 1 k_646 k_31 k_649 q_Md_refused ⟨by decide, by decide⟩, C.2.2.2.2.1 _ k_648, C.2.2.2.2.1 _ k_10⟩ 38 zr_38 rfl rfl (fun _ _ _ _ h => h) (fun _ _ _ _ _ _ _ => trivial) rfl rfl (Nat.le_of_ble_eq_true rfl) d_Md_count_27 ⟨by decide, by decide⟩ (pc' := 30) rfl (fun r1 M2 hp3 => ?_)
    obtain ⟨hM2, hre⟩ := hp3
    refine xw_topi (y := nI 1) (by rw [hre]; rfl) ?_
    clear hre
    refine xw_if_eq C (tgt := 37) d_Md_count_30 (by decide) (pc' := 33) rfl (fun h30 => ?_) (fun h30 => ?_)
    ·
      replace h30 : 1 = 0 := (xp_eq0 (by omega)).mp h30
      omega
    ·
      replace h30 : ¬ (1 = 0) := fun hneg => h30 ((xp_eq0 (by omega)).mpr hneg)
      refine xw_iconst C (v := nI 0) d_Md_count_33 (by decide) (pc' := 34) rfl ?_
      refine xw_goto C (tgt := 47) d_Md_count_34 (by decide) ?_
      refine xw_iret C hr hlk (F := zW ca ad) M2 rfl ?_ d_Md_count_47
      refine Or.inl ⟨fun h9 => ?_, hM2⟩
      first | exact h9.1.1 h2 | exact (Int32.not_le.mpr h9.1.2) h10 | exact h9.2.1 h14 | exact h19 ((xp_leS (by omega)).mpr h9.2.2)
  ·
    refine xw_iload_n C 1 d_Md_count_5 rfl rfl (pc' := 6) rfl ?_
    refine xw_aload_n C 0 d_Md_count_6 rfl rfl (pc' := 7) rfl ?_
    refine xw_get C u_Md 38 zr_38 rfl 2 (by decide) k_572 rfl rfl d_Md_count_7 (pc' := 10) rfl ?_
    refine xw_topi (y := nI n) hz ?_
    refine xw_icmp_ge C (tgt := 22) d_Md_count_10 (by decide) (pc' := 13) rfl (fun h10 => ?_) (fun h10 => ?_)
    ·
      refine xw_iconst C (v := nI 1) d_Md_count_22 (by decide) (pc' := 23) rfl ?_
      refine xw_goto C (tgt := 27) d_Md_count_23 (by decide) ?_
      refine xw_callVi C (c_Md_refused l D ca ad M 1 (by omega)) ⟨zg_B C 1 k_646 k_31 k_649 q_Md_refused ⟨by decide, by decide⟩, C.2.2.2.2.1 _ k_648, C.2.2.2.2.1 _ k_10⟩ 38 zr_38 rfl rfl (fun _ _ _ _ h => h) (fun _ _ _ _ _ _ _ => trivial) rfl rfl (Nat.le_of_ble_eq_true rfl) d_Md_count_27 ⟨by decide, by decide⟩ (pc' := 30) rfl (fun r4 M5 hp6 => ?_)
      obtain ⟨hM5, hre⟩ := hp6
      refine xw_topi (y := nI 1) (by rw [hre]; rfl) ?_
      clear hre
      refine xw_if_eq C (tgt := 37) d_Md_count_30 (by decide) (pc' := 33) rfl (fun h30 => ?_) (fun h30 => ?_)
      ·
        replace h30 : 1 = 0 := (xp_eq0 (by omega)).mp h30
        omega
      ·
        replace h30 : ¬ (1 = 0) := fun hneg => h30 ((xp_eq0 (by omega)).mpr hneg)
        refine xw_iconst C (v := nI 0) d_Md_count_33 (by decide) (pc' := 34) rfl ?_
        refine xw_goto C (tgt := 47) d_Md_count_34 (by decide) ?_
        refine xw_iret C hr hlk (F := zW ca ad) M5 rfl ?_ d_Md_count_47
        refine Or.inl ⟨fun h9 => ?_, hM5⟩
        first | exact h9.1.1 h2 | exact (Int32.not_le.mpr h9.1.2) h10 | exact h9.2.1 h14 | exact h19 ((xp_leS (by omega)).mpr h9.2.2)
    ·
      refine xw_iload_n C 2 d_Md_count_13 rfl rfl (pc' := 14) rfl ?_
      refine xw_if_lt C (tgt := 22) d_Md_count_14 (by decide) (pc' := 17) rfl (fun h14 => ?_) (fun h14 => ?_)
      ·
        refine xw_iconst C (v := nI 1) d_Md_count_22 (by decide) (pc' := 23) rfl ?_
        refine xw_goto C (tgt := 27) d_Md_count_23 (by decide) ?_
        refine xw_callVi C (c_Md_refused l D ca ad M 1 (by omega)) ⟨zg_B C 1 k_646 k_31 k_649 q_Md_refused ⟨by decide, by decide⟩, C.2.2.2.2.1 _ k_648, C.2.2.2.2.1 _ k_10⟩ 38 zr_38 rfl rfl (fun _ _ _ _ h => h) (fun _ _ _ _ _ _ _ => trivial) rfl rfl (Nat.le_of_ble_eq_true rfl) d_Md_count_27 ⟨by decide, by decide⟩ (pc' := 30) rfl (fun r7 M8 hp9 => ?_)
        obtain ⟨hM8, hre⟩ := hp9
        refine xw_topi (y := nI 1) (by rw [hre]; rfl) ?_
        clear hre
        refine xw_if_eq C (tgt := 37) d_Md_count_30 (by decide) (pc' := 33) rfl (fun h30 => ?_) (fun h30 => ?_)
        ·
          replace h30 : 1 = 0 := (xp_eq0 (by omega)).mp h30
          omega
        ·
          replace h30 : ¬ (1 = 0) := fun hneg => h30 ((xp_eq0 (by omega)).mpr hneg)
          refine xw_iconst C (v := nI 0) d_Md_count_33 (by decide) (pc' := 34) rfl ?_
          refine xw_goto C (tgt := 47) d_Md_count_34 (by decide) ?_
          refine xw_iret C hr hlk (F := zW ca ad) M8 rfl ?_ d_Md_count_47
          refine Or.inl ⟨fun h9 => ?_, hM8⟩
          first | exact h9.1.1 h2 | exact (Int32.not_le.mpr h9.1.2) h10 | exact h9.2.1 h14 | exact h19 ((xp_leS (by omega)).mpr h9.2.2)
      ·
        refine xw_iload_n C 2 d_Md_count_17 rfl rfl (pc' := 18) rfl ?_
        refine xw_iconst C (v := nI 3) d_Md_count_18 (by decide) (pc' := 19) rfl ?_
        refine xw_icmp_le C (tgt := 26) d_Md_count_19 (by decide) (pc' := 22) rfl (fun h19 => ?_) (fun h19 => ?_)
        ·
          refine xw_iconst C (v := nI 0) d_Md_count_26 (by decide) (pc' := 27) rfl ?_
          refine xw_callVi C (c_Md_refused l D ca ad M 0 (by omega)) ⟨zg_B C 1 k_646 k_31 k_649 q_Md_refused ⟨by decide, by decide⟩, C.2.2.2.2.1 _ k_648, C.2.2.2.2.1 _ k_10⟩ 38 zr_38 rfl rfl (fun _ _ _ _ h => h) (fun _ _ _ _ _ _ _ => trivial) rfl rfl (Nat.le_of_ble_eq_true rfl) d_Md_count_27 ⟨by decide, by decide⟩ (pc' := 30) rfl (fun r10 M11 hp12 => ?_)
          obtain ⟨hM11, hre⟩ := hp12
          refine xw_topi (y := nI 0) (by rw [hre]; rfl) ?_
          clear hre
          refine xw_if_eq C (tgt := 37) d_Md_count_30 (by decide) (pc' := 33) rfl (fun h30 => ?_) (fun h30 => ?_)
          ·
            replace h30 : 0 = 0 := (xp_eq0 (by omega)).mp h30
            obtain ⟨i, hi1, hi2⟩ := xp_ix (n := n) (by omega) h2 (Int32.not_le.mp h10)
            subst hi2
            obtain ⟨w, hw1, hw2⟩ := xp_ix (n := 4) (by omega) h14 ((xp_leS (by omega)).mp h19)
            subst hw2
            refine xw_aload_n C 0 d_Md_count_37 rfl rfl (pc' := 38) rfl ?_
            refine xw_get C u_Md 38 zr_38 rfl 20 (by decide) k_590 rfl rfl d_Md_count_38 (pc' := 41) rfl ?_
            refine xw_iconst C (v := nI 4) d_Md_count_41 (by decide) (pc' := 42) rfl ?_
            refine xw_iload_n C 1 d_Md_count_42 rfl rfl (pc' := 43) rfl ?_
            refine xw_imul C d_Md_count_43 (pc' := 44) rfl ?_
            refine xw_topi (y := nI (4 * i)) (pk_mul _ _) ?_
            refine xw_iload_n C 2 d_Md_count_44 rfl rfl (pc' := 45) rfl ?_
            refine xw_iadd C d_Md_count_45 (pc' := 46) rfl ?_
            refine xw_topi (y := nI ((4 * i) + w)) (nI_add _ _) ?_
            refine xw_iald C 54 0 zr_54 rfl ((4 * i) + w) rfl (by omega) (by decide) d_Md_count_46 (pc' := 47) rfl ?_
            refine xw_iret C hr hlk (F := zW ca ad) M11 rfl ?_ d_Md_count_47
            exact Or.inr ⟨i, w, hi1, hw1, rfl, rfl, hM11, by rw [hM11, zst_ap, if_neg (by omega)]⟩
          ·
            replace h30 : ¬ (0 = 0) := fun hneg => h30 ((xp_eq0 (by omega)).mpr hneg)
            omega
        ·
          refine xw_iconst C (v := nI 1) d_Md_count_22 (by decide) (pc' := 23) rfl ?_
          refine xw_goto C (tgt := 27) d_Md_count_23 (by decide) ?_
          refine xw_callVi C (c_Md_refused l D ca ad M 1 (by omega)) ⟨zg_B C 1 k_646 k_31 k_649 q_Md_refused ⟨by decide, by decide⟩, C.2.2.2.2.1 _ k_648, C.2.2.2.2.1 _ k_10⟩ 38 zr_38 rfl rfl (fun _ _ _ _ h => h) (fun _ _ _ _ _ _ _ => trivial) rfl rfl (Nat.le_of_ble_eq_true rfl) d_Md_count_27 ⟨by decide, by decide⟩ (pc' := 30) rfl (fun r13 M14 hp15 => ?_)
          obtain ⟨hM14, hre⟩ := hp15
          refine xw_topi (y := nI 1) (by rw [hre]; rfl) ?_
          clear hre
          refine xw_if_eq C (tgt := 37) d_Md_count_30 (by decide) (pc' := 33) rfl (fun h30 => ?_) (fun h30 => ?_)
          ·
            replace h30 : 1 = 0 := (xp_eq0 (by omega)).mp h30
            omega
          ·
            replace h30 : ¬ (1 = 0) := fun hneg => h30 ((xp_eq0 (by omega)).mpr hneg)
            refine xw_iconst C (v := nI 0) d_Md_count_33 (by decide) (pc' := 34) rfl ?_
            refine xw_goto C (tgt := 47) d_Md_count_34 (by decide) ?_
            refine xw_iret C hr hlk (F := zW ca ad) M14 rfl ?_ d_Md_count_47
            refine Or.inl ⟨fun h9 => ?_, hM14⟩
            first | exact h9.1.1 h2 | exact (Int32.not_le.mpr h9.1.2) h10 | exact h9.2.1 h14 | exact h19 ((xp_leS (by omega)).mpr h9.2.2)

set_option maxHeartbeats 4000000 in
set_option maxRecDepth 100000 in
/-- shared -/
theorem c_Md_shared (l : Launch) (D : va_G) (ca : Nat → ClassId) (ad : Nat → Nat) (M : Nat → Nat → Int32) (x : Int32)  : xw_Mi l y_Md_shared (.code y_Md_shared b_Md_shared 2 (some .int) :: zG) { frames := 1, cells := 0, slots := 0, locals := 21 } D zCl (zT ca) [.ref (ad 38), .int x] (zW ca ad M) (fun _ => True) 0 0 (zW ca ad) (fun r M' => ¬ (¬ x < 0 ∧ x < nI 16) ∧ M' = zst M 38 0 (nI 1) ∨ ∃ i, i < 16 ∧ x = nI i ∧ M' = zst M 38 0 (nI 0) ∧ r = M 48 i) := by
  intro sz
  refine xw_met (cc := b_Md_shared) (maxL := 2) (ret := (some .int)) (by decide) rfl (Nat.le_of_ble_eq_true rfl) (fun p e s m args below meth c hr hlk hnm hsz hKs C => ?_)
  refine xw_lvE (lv' := [(0, .ref (ad 38)), (1, .int x)]) rfl ?_
  refine xw_aload_n C 0 d_Md_shared_0 rfl rfl (pc' := 1) rfl ?_
  refine xw_iload_n C 1 d_Md_shared_1 rfl rfl (pc' := 2) rfl ?_
  refine xw_if_lt C (tgt := 11) d_Md_shared_2 (by decide) (pc' := 5) rfl (fun h2 => ?_) (fun h2 => ?_)
  ·
    refine xw_iconst C (v := nI 1) d_Md_shared_11 (by decide) (pc' := 12) rfl ?_
    refine xw_goto C (tgt := 16) d_Md_shared_12 (by decide) ?_
    refine xw_callVi C (c_Md_refused l D ca ad M 1 (by omega)) ⟨zg_B C 1 k_646 k_31 k_649 q_Md_refused ⟨by decide, by decide⟩, C.2.2.2.2.1 _ k_648, C.2.2.2.2.1 _ k_10⟩ 38 zr_38 rfl rfl (fun _ _ _ _ h => h) (fun _ _ _ _ _ _ _ => trivial) rfl rfl (Nat.le_of_ble_eq_true rfl) d_Md_shared_16 ⟨by decide, by decide⟩ (pc' := 19) rfl (fun r1 M2 hp3 => ?_)
    obtain ⟨hM2, hre⟩ := hp3
    refine xw_topi (y := nI 1) (by rw [hre]; rfl) ?_
    clear hre
    refine xw_if_eq C (tgt := 26) d_Md_shared_19 (by decide) (pc' := 22) rfl (fun h19 => ?_) (fun h19 => ?_)
    ·
      replace h19 : 1 = 0 := (xp_eq0 (by omega)).mp h19
      omega
    ·
      replace h19 : ¬ (1 = 0) := fun hneg => h19 ((xp_eq0 (by omega)).mpr hneg)
      refine xw_iconst C (v := nI 0) d_Md_shared_22 (by decide) (pc' := 23) rfl ?_
      refine xw_goto C (tgt := 32) d_Md_shared_23 (by decide) ?_
      refine xw_iret C hr hlk (F := zW ca ad) M2 rfl ?_ d_Md_shared_32
      refine Or.inl ⟨fun h9 => ?_, hM2⟩
      first | exact h9.1 h2 | exact h8 ((xp_leS (by omega)).mpr h9.2)
  ·
    refine xw_iload_n C 1 d_Md_shared_5 rfl rfl (pc' := 6) rfl ?_
    refine xw_bipush C (v := nI 15) d_Md_shared_6 (by decide) (pc' := 8) rfl ?_
    refine xw_icmp_le C (tgt := 15) d_Md_shared_8 (by decide) (pc' := 11) rfl (fun h8 => ?_) (fun h8 => ?_)
    ·
      refine xw_iconst C (v := nI 0) d_Md_shared_15 (by decide) (pc' := 16) rfl ?_
      refine xw_callVi C (c_Md_refused l D ca ad M 0 (by omega)) ⟨zg_B C 1 k_646 k_31 k_649 q_Md_refused ⟨by decide, by decide⟩, C.2.2.2.2.1 _ k_648, C.2.2.2.2.1 _ k_10⟩ 38 zr_38 rfl rfl (fun _ _ _ _ h => h) (fun _ _ _ _ _ _ _ => trivial) rfl rfl (Nat.le_of_ble_eq_true rfl) d_Md_shared_16 ⟨by decide, by decide⟩ (pc' := 19) rfl (fun r4 M5 hp6 => ?_)
      obtain ⟨hM5, hre⟩ := hp6
      refine xw_topi (y := nI 0) (by rw [hre]; rfl) ?_
      clear hre
      refine xw_if_eq C (tgt := 26) d_Md_shared_19 (by decide) (pc' := 22) rfl (fun h19 => ?_) (fun h19 => ?_)
      ·
        replace h19 : 0 = 0 := (xp_eq0 (by omega)).mp h19
        obtain ⟨i, hi1, hi2⟩ := xp_ix (n := 16) (by omega) h2 ((xp_leS (by omega)).mp h8)
        subst hi2
        refine xw_aload_n C 0 d_Md_shared_26 rfl rfl (pc' := 27) rfl ?_
        refine xw_get C u_Md 38 zr_38 rfl 13 (by decide) k_583 rfl rfl d_Md_shared_27 (pc' := 30) rfl ?_
        refine xw_iload_n C 1 d_Md_shared_30 rfl rfl (pc' := 31) rfl ?_
        refine xw_iald C 48 0 zr_48 rfl i rfl (by omega) (by decide) d_Md_shared_31 (pc' := 32) rfl ?_
        refine xw_iret C hr hlk (F := zW ca ad) M5 rfl ?_ d_Md_shared_32
        exact Or.inr ⟨i, hi1, rfl, hM5, by rw [hM5, zst_ap, if_neg (by omega)]⟩
      ·
        replace h19 : ¬ (0 = 0) := fun hneg => h19 ((xp_eq0 (by omega)).mpr hneg)
        omega
    ·
      refine xw_iconst C (v := nI 1) d_Md_shared_11 (by decide) (pc' := 12) rfl ?_
      refine xw_goto C (tgt := 16) d_Md_shared_12 (by decide) ?_
      refine xw_callVi C (c_Md_refused l D ca ad M 1 (by omega)) ⟨zg_B C 1 k_646 k_31 k_649 q_Md_refused ⟨by decide, by decide⟩, C.2.2.2.2.1 _ k_648, C.2.2.2.2.1 _ k_10⟩ 38 zr_38 rfl rfl (fun _ _ _ _ h => h) (fun _ _ _ _ _ _ _ => trivial) rfl rfl (Nat.le_of_ble_eq_true rfl) d_Md_shared_16 ⟨by decide, by decide⟩ (pc' := 19) rfl (fun r7 M8 hp9 => ?_)
      obtain ⟨hM8, hre⟩ := hp9
      refine xw_topi (y := nI 1) (by rw [hre]; rfl) ?_
      clear hre
      refine xw_if_eq C (tgt := 26) d_Md_shared_19 (by decide) (pc' := 22) rfl (fun h19 => ?_) (fun h19 => ?_)
      ·
        replace h19 : 1 = 0 := (xp_eq0 (by omega)).mp h19
        omega
      ·
        replace h19 : ¬ (1 = 0) := fun hneg => h19 ((xp_eq0 (by omega)).mpr hneg)
        refine xw_iconst C (v := nI 0) d_Md_shared_22 (by decide) (pc' := 23) rfl ?_
        refine xw_goto C (tgt := 32) d_Md_shared_23 (by decide) ?_
        refine xw_iret C hr hlk (F := zW ca ad) M8 rfl ?_ d_Md_shared_32
        refine Or.inl ⟨fun h9 => ?_, hM8⟩
        first | exact h9.1 h2 | exact h8 ((xp_leS (by omega)).mpr h9.2)

def zPuY (M : Nat → Nat → Int32) (i k : Nat) (a b z : Int32) : Nat → Nat → Int32 := zst (zst (zst (zst (zst M 38 0 (nI 0)) 44 i a) 45 i b) 46 i z) 38 3 (if i = k then nI (k + 1) else nI k)

set_option maxHeartbeats 4000000 in
set_option maxRecDepth 100000 in
/-- slot -/
theorem c_Md_slot (l : Launch) (D : va_G) (ca : Nat → ClassId) (ad : Nat → Nat) (M : Nat → Nat → Int32) (md n k : Nat) (x a b z : Int32) (hmd : M 38 1 = nI md) (hmb : md ≤ 1) (hn : n ≤ 6) (hz : M 38 2 = nI n) (hk : k ≤ 60) (hz3 : M 38 3 = nI k) : xw_Mv l y_Md_slot (.code y_Md_slot b_Md_slot 7 none :: zG) { frames := 1, cells := 0, slots := 0, locals := 21 } D zCl (zT ca) [.ref (ad 38), .int x, .int a, .int b, .int z] (zW ca ad M) (fun _ => True) 0 0 (zW ca ad) (fun M' => md = 1 ∧ M' = zst M 38 0 (nI 1) ∨ md = 0 ∧ ¬ ((¬ x < 0 ∧ (x < nI (k + 1) ∧ x < nI 60)) ∧ ¬ z < 0 ∧ z < nI n) ∧ M' = zst M 38 0 (nI 2) ∨ md = 0 ∧ ((¬ x < 0 ∧ (x < nI (k + 1) ∧ x < nI 60)) ∧ ¬ z < 0 ∧ z < nI n) ∧ ¬ (¬ a < 0 ∧ a < nI 240 ∧ ¬ b < nI 1 ∧ ¬ nI 240 < b) ∧ M' = zst M 38 0 (nI 3) ∨ md = 0 ∧ ∃ i q1 q2 t, i ≤ k ∧ i < 60 ∧ q1 < 240 ∧ 1 ≤ q2 ∧ q2 ≤ 240 ∧ t < n ∧ x = nI i ∧ a = nI q1 ∧ b = nI q2 ∧ z = nI t ∧ M' = zPuY M i k a b z) := by
  intro sz
  refine xw_met (cc := b_Md_slot) (maxL := 7) (ret := none) (by decide) rfl (Nat.le_of_ble_eq_true rfl) (fun p e s m args below meth c hr hlk hnm hsz hKs C => ?_)
  have mid2 : ∀ (g f : Nat), g ≤ 1 → (g = 1 ∧ (((¬ x < 0 ∧ (x < nI (k + 1) ∧ x < nI 60)) ∧ ¬ z < 0 ∧ z < nI n)) ∨ g = 0 ∧ ¬ ((¬ x < 0 ∧ (x < nI (k + 1) ∧ x < nI 60)) ∧ ¬ z < 0 ∧ z < nI n)) → f ≤ 1 → (f = 1 ∧ (¬ a < 0 ∧ a < nI 240 ∧ ¬ b < nI 1 ∧ ¬ nI 240 < b) ∨ f = 0 ∧ ¬ (¬ a < 0 ∧ a < nI 240 ∧ ¬ b < nI 1 ∧ ¬ nI 240 < b)) → XW p l e { frames := 1, cells := 0, slots := 0, locals := 21 } s m args below meth c D zCl (va_A (zW ca ad M) sz) s.heap 7 (zW ca ad M) 0 0 (MQ below (va_Qv (fun M' => md = 1 ∧ M' = zst M 38 0 (nI 1) ∨ md = 0 ∧ ¬ ((¬ x < 0 ∧ (x < nI (k + 1) ∧ x < nI 60)) ∧ ¬ z < 0 ∧ z < nI n) ∧ M' = zst M 38 0 (nI 2) ∨ md = 0 ∧ ((¬ x < 0 ∧ (x < nI (k + 1) ∧ x < nI 60)) ∧ ¬ z < 0 ∧ z < nI n) ∧ ¬ (¬ a < 0 ∧ a < nI 240 ∧ ¬ b < nI 1 ∧ ¬ nI 240 < b) ∧ M' = zst M 38 0 (nI 3) ∨ md = 0 ∧ ∃ i q1 q2 t, i ≤ k ∧ i < 60 ∧ q1 < 240 ∧ 1 ≤ q2 ∧ q2 ≤ 240 ∧ t < n ∧ x = nI i ∧ a = nI q1 ∧ b = nI q2 ∧ z = nI t ∧ M' = zPuY M i k a b z) (xw_B D zCl (zT ca) (va_A (zW ca ad M) sz) (zW ca ad)) (va_A (zW ca ad M) sz)) args s 0 0 (va_A (zW ca ad M) sz)) 67 [(0, .ref (ad 38)), (1, .int x), (2, .int a), (3, .int b), (4, .int z), (5, .int (nI g))] [.int (nI f)] := by
      intro g f hg hgg hf hff
      refine xw_istore C d_Md_slot_67 (by decide) rfl (pc' := 69) rfl ?_
      refine xw_aload_n C 1 d_Md_slot_69 rfl rfl (pc' := 70) rfl ?_
      refine xw_aload_n C 1 d_Md_slot_70 rfl rfl (pc' := 71) rfl ?_
      refine xw_get C u_Md 38 zr_38 rfl 1 (by decide) k_571 rfl rfl d_Md_slot_71 (pc' := 74) rfl ?_
      refine xw_topi (y := nI md) hmd ?_
      refine xw_if_eq C (tgt := 81) d_Md_slot_74 (by decide) (pc' := 77) rfl (fun h74 => ?_) (fun h74 => ?_)
      ·
        replace h74 : md = 0 := (xp_eq0 (by omega)).mp h74
        refine xw_iload C 6 d_Md_slot_81 rfl (pc' := 83) rfl ?_
        refine xw_if_ne C (tgt := 90) d_Md_slot_83 (by decide) (pc' := 86) rfl (fun h83 => ?_) (fun h83 => ?_)
        ·
          replace h83 : ¬ (g = 0) := fun hneg => h83 ((xp_eq0 (by omega)).mpr hneg)
          refine xw_iload C 0 d_Md_slot_90 rfl (pc' := 92) rfl ?_
          refine xw_if_ne C (tgt := 99) d_Md_slot_92 (by decide) (pc' := 95) rfl (fun h92 => ?_) (fun h92 => ?_)
          ·
            replace h92 : ¬ (f = 0) := fun hneg => h92 ((xp_eq0 (by omega)).mpr hneg)
            refine xw_iconst C (v := nI 0) d_Md_slot_99 (by decide) (pc' := 100) rfl ?_
            refine xw_callVi C (c_Md_refused l D ca ad M 0 (by omega)) ⟨zg_B C 1 k_646 k_31 k_649 q_Md_refused ⟨by decide, by decide⟩, C.2.2.2.2.1 _ k_648, C.2.2.2.2.1 _ k_10⟩ 38 zr_38 rfl rfl (fun _ _ _ _ h => h) (fun _ _ _ _ _ _ _ => trivial) rfl rfl (Nat.le_of_ble_eq_true rfl) d_Md_slot_100 ⟨by decide, by decide⟩ (pc' := 103) rfl (fun r51 M52 hp53 => ?_)
            obtain ⟨hM52, hre⟩ := hp53
            refine xw_topi (y := nI 0) (by rw [hre]; rfl) ?_
            clear hre
            have t38_2_M52 : M52 38 2 = nI n := by rw [hM52, zst_ap, if_neg (by omega)]; exact hz
            have t38_3_M52 : M52 38 3 = nI k := by rw [hM52, zst_ap, if_neg (by omega)]; exact hz3
            refine xw_if_eq C (tgt := 107) d_Md_slot_103 (by decide) (pc' := 106) rfl (fun h103 => ?_) (fun h103 => ?_)
            ·
              replace h103 : 0 = 0 := (xp_eq0 (by omega)).mp h103
              have hsl : (¬ x < 0 ∧ (x < nI (k + 1) ∧ x < nI 60)) ∧ ¬ z < 0 ∧ z < nI n := by rcases hgg with q | q; exact q.2; omega
              have hsf : ¬ a < 0 ∧ a < nI 240 ∧ ¬ b < nI 1 ∧ ¬ nI 240 < b := by rcases hff with q | q; exact q.2; omega
              obtain ⟨i, hi1, hi2⟩ := xp_ix (n := 60) (by omega) hsl.1.1 hsl.1.2.2
              have hik : i < k + 1 := by have q := hsl.1.2.1; rw [hi2] at q; exact (nI_ltI (by omega) (by omega)).mp q
              obtain ⟨t, ht1, ht2⟩ := xp_ix (n := n) (by omega) hsl.2.1 hsl.2.2
              obtain ⟨q1, hq1, he1⟩ := xp_ix (n := 240) (by omega) hsf.1 hsf.2.1
              obtain ⟨q2, hq2, hq3, he2⟩ := xp_rg (a := 1) (b := 240) (by omega) (by omega) hsf.2.2.1 hsf.2.2.2
              subst hi2
              refine xw_aload_n C 1 d_Md_slot_107 rfl rfl (pc' := 108) rfl ?_
              refine xw_get C u_Md 38 zr_38 rfl 9 (by decide) k_579 rfl rfl d_Md_slot_108 (pc' := 111) rfl ?_
              refine xw_iload_n C 2 d_Md_slot_111 rfl rfl (pc' := 112) rfl ?_
              refine xw_iload_n C 3 d_Md_slot_112 rfl rfl (pc' := 113) rfl ?_
              obtain ⟨M54, hM54⟩ : ∃ zq, zq = zst M52 44 i a := ⟨_, rfl⟩
              have t38_2_M54 : M54 38 2 = nI n := by rw [hM54, zst_ap, if_neg (by omega)]; exact t38_2_M52
              have t38_3_M54 : M54 38 3 = nI k := by rw [hM54, zst_ap, if_neg (by omega)]; exact t38_3_M52
              refine xw_iast C 44 0 zr_44 rfl i rfl (by omega) (by decide) (ws' := zW ca ad M54) (by rw [hM54]; exact zs_44 _ _) d_Md_slot_113 (pc' := 114) rfl ?_
              refine xw_aload_n C 1 d_Md_slot_114 rfl rfl (pc' := 115) rfl ?_
              refine xw_get C u_Md 38 zr_38 rfl 10 (by decide) k_580 rfl rfl d_Md_slot_115 (pc' := 118) rfl ?_
              refine xw_iload_n C 2 d_Md_slot_118 rfl rfl (pc' := 119) rfl ?_
              refine xw_iload_n C 4 d_Md_slot_119 rfl rfl (pc' := 120) rfl ?_
              obtain ⟨M55, hM55⟩ : ∃ zq, zq = zst M54 45 i b := ⟨_, rfl⟩
              have t38_2_M55 : M55 38 2 = nI n := by rw [hM55, zst_ap, if_neg (by omega)]; exact t38_2_M54
              have t38_3_M55 : M55 38 3 = nI k := by rw [hM55, zst_ap, if_neg (by omega)]; exact t38_3_M54
              refine xw_iast C 45 0 zr_45 rfl i rfl (by omega) (by decide) (ws' := zW ca ad M55) (by rw [hM55]; exact zs_45 _ _) d_Md_slot_120 (pc' := 121) rfl ?_
              refine xw_aload_n C 1 d_Md_slot_121 rfl rfl (pc' := 122) rfl ?_
              refine xw_get C u_Md 38 zr_38 rfl 11 (by decide) k_581 rfl rfl d_Md_slot_122 (pc' := 125) rfl ?_
              refine xw_iload_n C 2 d_Md_slot_125 rfl rfl (pc' := 126) rfl ?_
              refine xw_iload C 5 d_Md_slot_126 rfl (pc' := 128) rfl ?_
              obtain ⟨M56, hM56⟩ : ∃ zq, zq = zst M55 46 i z := ⟨_, rfl⟩
              have t38_2_M56 : M56 38 2 = nI n := by rw [hM56, zst_ap, if_neg (by omega)]; exact t38_2_M55
              have t38_3_M56 : M56 38 3 = nI k := by rw [hM56, zst_ap, if_neg (by omega)]; exact t38_3_M55
              refine xw_iast C 46 0 zr_46 rfl i rfl (by omega) (by decide) (ws' := zW ca ad M56) (by rw [hM56]; exact zs_46 _ _) d_Md_slot_128 (pc' := 129) rfl ?_
              refine xw_aload_n C 1 d_Md_slot_129 rfl rfl (pc' := 130) rfl ?_
              refine xw_iload_n C 2 d_Md_slot_130 rfl rfl (pc' := 131) rfl ?_
              refine xw_aload_n C 1 d_Md_slot_131 rfl rfl (pc' := 132) rfl ?_
              refine xw_get C u_Md 38 zr_38 rfl 8 (by decide) k_578 rfl rfl d_Md_slot_132 (pc' := 135) rfl ?_
              refine xw_topi (y := nI k) t38_3_M56 ?_
              refine xw_icmp_ne C (tgt := 147) d_Md_slot_135 (by decide) (pc' := 138) rfl (fun h135 => ?_) (fun h135 => ?_)
              ·
                replace h135 : ¬ (i = k) := fun hneg => h135 ((nI_eq (by omega) (by omega)).mpr hneg)
                refine xw_aload_n C 1 d_Md_slot_147 rfl rfl (pc' := 148) rfl ?_
                refine xw_get C u_Md 38 zr_38 rfl 8 (by decide) k_578 rfl rfl d_Md_slot_148 (pc' := 151) rfl ?_
                refine xw_topi (y := nI k) t38_3_M56 ?_
                obtain ⟨M57, hM57⟩ : ∃ zq, zq = zst M56 38 3 (nI k) := ⟨_, rfl⟩
                have t38_2_M57 : M57 38 2 = nI n := by rw [hM57, zst_ap, if_neg (by omega)]; exact t38_2_M56
                have t38_3_M57 : M57 38 3 = nI k := by rw [hM57, zst_ap, if_pos ⟨rfl, rfl⟩]
                refine xw_put C u_Md t_Md t_Md_ok n_Md 38 zr_38 rfl 8 (by decide) k_578 rfl rfl (t_Md_ok 8 (by decide)) rfl rfl (Nat.le_of_ble_eq_true rfl) (ws' := zW ca ad M57) (by rw [hM57]; exact zs_38_3 _) d_Md_slot_151 (pc' := 154) rfl ?_
                refine xw_vret C hr hlk (F := zW ca ad) M57 rfl ?_ d_Md_slot_154
                refine Or.inr (Or.inr (Or.inr ⟨by omega, i, q1, q2, t, by omega, by omega, hq1, hq2, hq3, ht1, rfl, he1, he2, ht2, ?_⟩))
                unfold zPuY
                rw [if_neg h135, hM57, hM56, hM55, hM54, hM52]
              ·
                replace h135 : i = k := (nI_eq (by omega) (by omega)).mp h135
                refine xw_aload_n C 1 d_Md_slot_138 rfl rfl (pc' := 139) rfl ?_
                refine xw_get C u_Md 38 zr_38 rfl 8 (by decide) k_578 rfl rfl d_Md_slot_139 (pc' := 142) rfl ?_
                refine xw_topi (y := nI k) t38_3_M56 ?_
                refine xw_iconst C (v := nI 1) d_Md_slot_142 (by decide) (pc' := 143) rfl ?_
                refine xw_iadd C d_Md_slot_143 (pc' := 144) rfl ?_
                refine xw_topi (y := nI (k + 1)) (nI_add _ _) ?_
                refine xw_goto C (tgt := 151) d_Md_slot_144 (by decide) ?_
                obtain ⟨M58, hM58⟩ : ∃ zq, zq = zst M56 38 3 (nI (k + 1)) := ⟨_, rfl⟩
                have t38_2_M58 : M58 38 2 = nI n := by rw [hM58, zst_ap, if_neg (by omega)]; exact t38_2_M56
                have t38_3_M58 : M58 38 3 = nI (k + 1) := by rw [hM58, zst_ap, if_pos ⟨rfl, rfl⟩]
                refine xw_put C u_Md t_Md t_Md_ok n_Md 38 zr_38 rfl 8 (by decide) k_578 rfl rfl (t_Md_ok 8 (by decide)) rfl rfl (Nat.le_of_ble_eq_true rfl) (ws' := zW ca ad M58) (by rw [hM58]; exact zs_38_3 _) d_Md_slot_151 (pc' := 154) rfl ?_
                refine xw_vret C hr hlk (F := zW ca ad) M58 rfl ?_ d_Md_slot_154
                refine Or.inr (Or.inr (Or.inr ⟨by omega, i, q1, q2, t, by omega, by omega, hq1, hq2, hq3, ht1, rfl, he1, he2, ht2, ?_⟩))
                unfold zPuY
                rw [if_pos h135, hM58, hM56, hM55, hM54, hM52]
            ·
              replace h103 : ¬ (0 = 0) := fun hneg => h103 ((xp_eq0 (by omega)).mpr hneg)
              omega
          ·
            replace h92 : f = 0 := (xp_eq0 (by omega)).mp h92
            refine xw_iconst C (v := nI 3) d_Md_slot_95 (by decide) (pc' := 96) rfl ?_
            refine xw_goto C (tgt := 100) d_Md_slot_96 (by decide) ?_
            refine xw_callVi C (c_Md_refused l D ca ad M 3 (by omega)) ⟨zg_B C 1 k_646 k_31 k_649 q_Md_refused ⟨by decide, by decide⟩, C.2.2.2.2.1 _ k_648, C.2.2.2.2.1 _ k_10⟩ 38 zr_38 rfl rfl (fun _ _ _ _ h => h) (fun _ _ _ _ _ _ _ => trivial) rfl rfl (Nat.le_of_ble_eq_true rfl) d_Md_slot_100 ⟨by decide, by decide⟩ (pc' := 103) rfl (fun r59 M60 hp61 => ?_)
            obtain ⟨hM60, hre⟩ := hp61
            refine xw_topi (y := nI 1) (by rw [hre]; rfl) ?_
            clear hre
            have t38_2_M60 : M60 38 2 = nI n := by rw [hM60, zst_ap, if_neg (by omega)]; exact hz
            have t38_3_M60 : M60 38 3 = nI k := by rw [hM60, zst_ap, if_neg (by omega)]; exact hz3
            refine xw_if_eq C (tgt := 107) d_Md_slot_103 (by decide) (pc' := 106) rfl (fun h103 => ?_) (fun h103 => ?_)
            ·
              replace h103 : 1 = 0 := (xp_eq0 (by omega)).mp h103
              omega
            ·
              replace h103 : ¬ (1 = 0) := fun hneg => h103 ((xp_eq0 (by omega)).mpr hneg)
              refine xw_vret C hr hlk (F := zW ca ad) M60 rfl ?_ d_Md_slot_106
              exact Or.inr (Or.inr (Or.inl ⟨by omega, by rcases hgg with q | q; exact q.2; omega, by rcases hff with q | q; omega; exact q.2, hM60⟩))
        ·
          replace h83 : g = 0 := (xp_eq0 (by omega)).mp h83
          refine xw_iconst C (v := nI 2) d_Md_slot_86 (by decide) (pc' := 87) rfl ?_
          refine xw_goto C (tgt := 100) d_Md_slot_87 (by decide) ?_
          refine xw_callVi C (c_Md_refused l D ca ad M 2 (by omega)) ⟨zg_B C 1 k_646 k_31 k_649 q_Md_refused ⟨by decide, by decide⟩, C.2.2.2.2.1 _ k_648, C.2.2.2.2.1 _ k_10⟩ 38 zr_38 rfl rfl (fun _ _ _ _ h => h) (fun _ _ _ _ _ _ _ => trivial) rfl rfl (Nat.le_of_ble_eq_true rfl) d_Md_slot_100 ⟨by decide, by decide⟩ (pc' := 103) rfl (fun r62 M63 hp64 => ?_)
          obtain ⟨hM63, hre⟩ := hp64
          refine xw_topi (y := nI 1) (by rw [hre]; rfl) ?_
          clear hre
          have t38_2_M63 : M63 38 2 = nI n := by rw [hM63, zst_ap, if_neg (by omega)]; exact hz
          have t38_3_M63 : M63 38 3 = nI k := by rw [hM63, zst_ap, if_neg (by omega)]; exact hz3
          refine xw_if_eq C (tgt := 107) d_Md_slot_103 (by decide) (pc' := 106) rfl (fun h103 => ?_) (fun h103 => ?_)
          ·
            replace h103 : 1 = 0 := (xp_eq0 (by omega)).mp h103
            omega
          ·
            replace h103 : ¬ (1 = 0) := fun hneg => h103 ((xp_eq0 (by omega)).mpr hneg)
            refine xw_vret C hr hlk (F := zW ca ad) M63 rfl ?_ d_Md_slot_106
            exact Or.inr (Or.inl ⟨by omega, by rcases hgg with q | q; omega; exact q.2, hM63⟩)
      ·
        replace h74 : ¬ (md = 0) := fun hneg => h74 ((xp_eq0 (by omega)).mpr hneg)
        refine xw_iconst C (v := nI 1) d_Md_slot_77 (by decide) (pc' := 78) rfl ?_
        refine xw_goto C (tgt := 100) d_Md_slot_78 (by decide) ?_
        refine xw_callVi C (c_Md_refused l D ca ad M 1 (by omega)) ⟨zg_B C 1 k_646 k_31 k_649 q_Md_refused ⟨by decide, by decide⟩, C.2.2.2.2.1 _ k_648, C.2.2.2.2.1 _ k_10⟩ 38 zr_38 rfl rfl (fun _ _ _ _ h => h) (fun _ _ _ _ _ _ _ => trivial) rfl rfl (Nat.le_of_ble_eq_true rfl) d_Md_slot_100 ⟨by decide, by decide⟩ (pc' := 103) rfl (fun r65 M66 hp67 => ?_)
        obtain ⟨hM66, hre⟩ := hp67
        refine xw_topi (y := nI 1) (by rw [hre]; rfl) ?_
        clear hre
        have t38_2_M66 : M66 38 2 = nI n := by rw [hM66, zst_ap, if_neg (by omega)]; exact hz
        have t38_3_M66 : M66 38 3 = nI k := by rw [hM66, zst_ap, if_neg (by omega)]; exact hz3
        refine xw_if_eq C (tgt := 107) d_Md_slot_103 (by decide) (pc' := 106) rfl (fun h103 => ?_) (fun h103 => ?_)
        ·
          replace h103 : 1 = 0 := (xp_eq0 (by omega)).mp h103
          omega
        ·
          replace h103 : ¬ (1 = 0) := fun hneg => h103 ((xp_eq0 (by omega)).mpr hneg)
          refine xw_vret C hr hlk (F := zW ca ad) M66 rfl ?_ d_Md_slot_106
          exact Or.inl ⟨by omega, hM66⟩
  have mid1 : ∀ (g : Nat), g ≤ 1 → (g = 1 ∧ (((¬ x < 0 ∧ (x < nI (k + 1) ∧ x < nI 60)) ∧ ¬ z < 0 ∧ z < nI n)) ∨ g = 0 ∧ ¬ ((¬ x < 0 ∧ (x < nI (k + 1) ∧ x < nI 60)) ∧ ¬ z < 0 ∧ z < nI n)) → XW p l e { frames := 1, cells := 0, slots := 0, locals := 21 } s m args below meth c D zCl (va_A (zW ca ad M) sz) s.heap 7 (zW ca ad M) 0 0 (MQ below (va_Qv (fun M' => md = 1 ∧ M' = zst M 38 0 (nI 1) ∨ md = 0 ∧ ¬ ((¬ x < 0 ∧ (x < nI (k + 1) ∧ x < nI 60)) ∧ ¬ z < 0 ∧ z < nI n) ∧ M' = zst M 38 0 (nI 2) ∨ md = 0 ∧ ((¬ x < 0 ∧ (x < nI (k + 1) ∧ x < nI 60)) ∧ ¬ z < 0 ∧ z < nI n) ∧ ¬ (¬ a < 0 ∧ a < nI 240 ∧ ¬ b < nI 1 ∧ ¬ nI 240 < b) ∧ M' = zst M 38 0 (nI 3) ∨ md = 0 ∧ ∃ i q1 q2 t, i ≤ k ∧ i < 60 ∧ q1 < 240 ∧ 1 ≤ q2 ∧ q2 ≤ 240 ∧ t < n ∧ x = nI i ∧ a = nI q1 ∧ b = nI q2 ∧ z = nI t ∧ M' = zPuY M i k a b z) (xw_B D zCl (zT ca) (va_A (zW ca ad M) sz) (zW ca ad)) (va_A (zW ca ad M) sz)) args s 0 0 (va_A (zW ca ad M) sz)) 37 [(0, .ref (ad 38)), (1, .int x), (2, .int a), (3, .int b), (4, .int z)] [.int (nI g)] := by
      intro g hg hgg
      refine xw_istore C d_Md_slot_37 (by decide) rfl (pc' := 39) rfl ?_
      refine xw_iload_n C 3 d_Md_slot_39 rfl rfl (pc' := 40) rfl ?_
      refine xw_if_lt C (tgt := 66) d_Md_slot_40 (by decide) (pc' := 43) rfl (fun h40 => ?_) (fun h40 => ?_)
      ·
        refine xw_iconst C (v := nI 0) d_Md_slot_66 (by decide) (pc' := 67) rfl ?_
        refine xw_lv [1, 2, 3, 4, 5, 0] rfl ?_
        refine mid2 g 0 hg hgg (by omega) (Or.inr ⟨rfl, fun hq => ?_⟩)
        first | exact hq.1 h40 | exact absurd ((xp_leS (by omega)).mpr hq.2.1) (Int32.not_le.mpr h47) | exact hq.2.2.1 h52 | exact hq.2.2.2 h59
      ·
        refine xw_iload_n C 3 d_Md_slot_43 rfl rfl (pc' := 44) rfl ?_
        refine xw_sipush C (v := nI 239) d_Md_slot_44 (by decide) (pc' := 47) rfl ?_
        refine xw_icmp_gt C (tgt := 66) d_Md_slot_47 (by decide) (pc' := 50) rfl (fun h47 => ?_) (fun h47 => ?_)
        ·
          refine xw_iconst C (v := nI 0) d_Md_slot_66 (by decide) (pc' := 67) rfl ?_
          refine xw_lv [1, 2, 3, 4, 5, 0] rfl ?_
          refine mid2 g 0 hg hgg (by omega) (Or.inr ⟨rfl, fun hq => ?_⟩)
          first | exact hq.1 h40 | exact absurd ((xp_leS (by omega)).mpr hq.2.1) (Int32.not_le.mpr h47) | exact hq.2.2.1 h52 | exact hq.2.2.2 h59
        ·
          refine xw_iload_n C 4 d_Md_slot_50 rfl rfl (pc' := 51) rfl ?_
          refine xw_iconst C (v := nI 1) d_Md_slot_51 (by decide) (pc' := 52) rfl ?_
          refine xw_icmp_lt C (tgt := 66) d_Md_slot_52 (by decide) (pc' := 55) rfl (fun h52 => ?_) (fun h52 => ?_)
          ·
            refine xw_iconst C (v := nI 0) d_Md_slot_66 (by decide) (pc' := 67) rfl ?_
            refine xw_lv [1, 2, 3, 4, 5, 0] rfl ?_
            refine mid2 g 0 hg hgg (by omega) (Or.inr ⟨rfl, fun hq => ?_⟩)
            first | exact hq.1 h40 | exact absurd ((xp_leS (by omega)).mpr hq.2.1) (Int32.not_le.mpr h47) | exact hq.2.2.1 h52 | exact hq.2.2.2 h59
          ·
            refine xw_iload_n C 4 d_Md_slot_55 rfl rfl (pc' := 56) rfl ?_
            refine xw_sipush C (v := nI 240) d_Md_slot_56 (by decide) (pc' := 59) rfl ?_
            refine xw_icmp_gt C (tgt := 66) d_Md_slot_59 (by decide) (pc' := 62) rfl (fun h59 => ?_) (fun h59 => ?_)
            ·
              refine xw_iconst C (v := nI 0) d_Md_slot_66 (by decide) (pc' := 67) rfl ?_
              refine xw_lv [1, 2, 3, 4, 5, 0] rfl ?_
              refine mid2 g 0 hg hgg (by omega) (Or.inr ⟨rfl, fun hq => ?_⟩)
              first | exact hq.1 h40 | exact absurd ((xp_leS (by omega)).mpr hq.2.1) (Int32.not_le.mpr h47) | exact hq.2.2.1 h52 | exact hq.2.2.2 h59
            ·
              refine xw_iconst C (v := nI 1) d_Md_slot_62 (by decide) (pc' := 63) rfl ?_
              refine xw_goto C (tgt := 67) d_Md_slot_63 (by decide) ?_
              refine xw_lv [1, 2, 3, 4, 5, 0] rfl ?_
              exact mid2 g 1 hg hgg (by omega) (Or.inl ⟨rfl, h40, (xp_leS (by omega)).mp (Int32.not_lt.mp h47), h52, h59⟩)
  refine xw_lvE (lv' := [(0, .ref (ad 38)), (1, .int x), (2, .int a), (3, .int b), (4, .int z)]) rfl ?_
  refine xw_iload_n C 1 d_Md_slot_0 rfl rfl (pc' := 1) rfl ?_
  refine xw_if_lt C (tgt := 36) d_Md_slot_1 (by decide) (pc' := 4) rfl (fun h1 => ?_) (fun h1 => ?_)
  ·
    refine xw_iconst C (v := nI 0) d_Md_slot_36 (by decide) (pc' := 37) rfl ?_
    refine mid1 0 (by omega) (Or.inr ⟨rfl, fun hq => ?_⟩)
    first | exact hq.1.1 h1 | exact absurd ((xp_leS (by omega)).mpr hq.1.2.1) (Int32.not_le.mpr h9) | exact (Int32.not_le.mpr hq.1.2.2) h15 | exact hq.2.1 h20 | exact (Int32.not_le.mpr hq.2.2) h29
  ·
    refine xw_iload_n C 1 d_Md_slot_4 rfl rfl (pc' := 5) rfl ?_
    refine xw_aload_n C 0 d_Md_slot_5 rfl rfl (pc' := 6) rfl ?_
    refine xw_get C u_Md 38 zr_38 rfl 8 (by decide) k_578 rfl rfl d_Md_slot_6 (pc' := 9) rfl ?_
    refine xw_topi (y := nI k) hz3 ?_
    refine xw_icmp_gt C (tgt := 36) d_Md_slot_9 (by decide) (pc' := 12) rfl (fun h9 => ?_) (fun h9 => ?_)
    ·
      refine xw_iconst C (v := nI 0) d_Md_slot_36 (by decide) (pc' := 37) rfl ?_
      refine mid1 0 (by omega) (Or.inr ⟨rfl, fun hq => ?_⟩)
      first | exact hq.1.1 h1 | exact absurd ((xp_leS (by omega)).mpr hq.1.2.1) (Int32.not_le.mpr h9) | exact (Int32.not_le.mpr hq.1.2.2) h15 | exact hq.2.1 h20 | exact (Int32.not_le.mpr hq.2.2) h29
    ·
      refine xw_iload_n C 1 d_Md_slot_12 rfl rfl (pc' := 13) rfl ?_
      refine xw_bipush C (v := nI 60) d_Md_slot_13 (by decide) (pc' := 15) rfl ?_
      refine xw_icmp_ge C (tgt := 36) d_Md_slot_15 (by decide) (pc' := 18) rfl (fun h15 => ?_) (fun h15 => ?_)
      ·
        refine xw_iconst C (v := nI 0) d_Md_slot_36 (by decide) (pc' := 37) rfl ?_
        refine mid1 0 (by omega) (Or.inr ⟨rfl, fun hq => ?_⟩)
        first | exact hq.1.1 h1 | exact absurd ((xp_leS (by omega)).mpr hq.1.2.1) (Int32.not_le.mpr h9) | exact (Int32.not_le.mpr hq.1.2.2) h15 | exact hq.2.1 h20 | exact (Int32.not_le.mpr hq.2.2) h29
      ·
        refine xw_iload C 4 d_Md_slot_18 rfl (pc' := 20) rfl ?_
        refine xw_if_lt C (tgt := 36) d_Md_slot_20 (by decide) (pc' := 23) rfl (fun h20 => ?_) (fun h20 => ?_)
        ·
          refine xw_iconst C (v := nI 0) d_Md_slot_36 (by decide) (pc' := 37) rfl ?_
          refine mid1 0 (by omega) (Or.inr ⟨rfl, fun hq => ?_⟩)
          first | exact hq.1.1 h1 | exact absurd ((xp_leS (by omega)).mpr hq.1.2.1) (Int32.not_le.mpr h9) | exact (Int32.not_le.mpr hq.1.2.2) h15 | exact hq.2.1 h20 | exact (Int32.not_le.mpr hq.2.2) h29
        ·
          refine xw_iload C 4 d_Md_slot_23 rfl (pc' := 25) rfl ?_
          refine xw_aload_n C 0 d_Md_slot_25 rfl rfl (pc' := 26) rfl ?_
          refine xw_get C u_Md 38 zr_38 rfl 2 (by decide) k_572 rfl rfl d_Md_slot_26 (pc' := 29) rfl ?_
          refine xw_topi (y := nI n) hz ?_
          refine xw_icmp_ge C (tgt := 36) d_Md_slot_29 (by decide) (pc' := 32) rfl (fun h29 => ?_) (fun h29 => ?_)
          ·
            refine xw_iconst C (v := nI 0) d_Md_slot_36 (by decide) (pc' := 37) rfl ?_
            refine mid1 0 (by omega) (Or.inr ⟨rfl, fun hq => ?_⟩)
            first | exact hq.1.1 h1 | exact absurd ((xp_leS (by omega)).mpr hq.1.2.1) (Int32.not_le.mpr h9) | exact (Int32.not_le.mpr hq.1.2.2) h15 | exact hq.2.1 h20 | exact (Int32.not_le.mpr hq.2.2) h29
          ·
            refine xw_iconst C (v := nI 1) d_Md_slot_32 (by decide) (pc' := 33) rfl ?_
            refine xw_goto C (tgt := 37) d_Md_slot_33 (by decide) ?_
            exact mid1 1 (by omega) (Or.inl ⟨rfl, ⟨h1, (xp_leS (by omega)).mp (Int32.not_lt.mp h9), Int32.not_le.mp h15⟩, h20, Int32.not_le.mp h29⟩)

def zApY (M : Nat → Nat → Int32) (n : Nat) (x y z o : Int32) : Nat → Nat → Int32 := zst (zst (zst (zst (zst (zst M 38 0 (nI 0)) 39 n x) 40 n y) 41 n z) 42 n o) 43 n (nI (8 * n))
def zCn4 (M : Nat → Nat → Int32) (n : Nat) : Nat → Nat → Nat → Int32
  | 0 => M
  | i + 1 => zst (zCn4 M n i) 54 (4 * n + i) (nI 0)
theorem zCn4_out {M : Nat → Nat → Int32} {n i a b : Nat} (h : a ≠ 54) : zCn4 M n i a b = M a b := by
  induction i with
  | zero => rfl
  | succ i ih =>
    show zst (zCn4 M n i) 54 (4 * n + i) (nI 0) a b = M a b
    rw [zst_ap, if_neg (fun q => h q.1)]; exact ih

set_option maxHeartbeats 4000000 in
set_option maxRecDepth 100000 in
/-- task -/
theorem c_Md_task (l : Launch) (D : va_G) (ca : Nat → ClassId) (ad : Nat → Nat) (M : Nat → Nat → Int32) (md n : Nat) (x y z o : Int32) (hmd : M 38 1 = nI md) (hmb : md ≤ 1) (hn : n ≤ 6) (hz : M 38 2 = nI n) : xw_Mi l y_Md_task (.code y_Md_task b_Md_task 7 (some .int) :: zG) { frames := 1, cells := 0, slots := 0, locals := 21 } D zCl (zT ca) [.ref (ad 38), .int x, .int y, .int z, .int o] (zW ca ad M) (fun _ => True) 0 0 (zW ca ad) (fun r M' => (md = 1 ∨ n = 6) ∧ M' = zst M 38 0 (nI 1) ∨ md = 0 ∧ n < 6 ∧ ¬ sp_isT x y z o ∧ M' = zst M 38 0 (nI 2) ∨ md = 0 ∧ n < 6 ∧ sp_isT x y z o ∧ M' = zst (zCn4 (zApY M n x y z o) n 4) 38 2 (nI (n + 1)) ∧ r = nI n) := by
  intro sz
  refine xw_met (cc := b_Md_task) (maxL := 7) (ret := (some .int)) (by decide) rfl (Nat.le_of_ble_eq_true rfl) (fun p e s m args below meth c hr hlk hnm hsz hKs C => ?_)
  have loop1 : md = 0 → n < 6 → sp_isT x y z o → ∀ (d : Nat) (i : Nat) (M1 : Nat → Nat → Int32), 4 - i = d → i ≤ 4 → M1 = zCn4 (zApY M n x y z o) n i → XW p l e { frames := 1, cells := 0, slots := 0, locals := 21 } s m args below meth c D zCl (va_A (zW ca ad M) sz) s.heap 7 (zW ca ad M1) 0 0 (MQ below (va_Qi (fun r M' => (md = 1 ∨ n = 6) ∧ M' = zst M 38 0 (nI 1) ∨ md = 0 ∧ n < 6 ∧ ¬ sp_isT x y z o ∧ M' = zst M 38 0 (nI 2) ∨ md = 0 ∧ n < 6 ∧ sp_isT x y z o ∧ M' = zst (zCn4 (zApY M n x y z o) n 4) 38 2 (nI (n + 1)) ∧ r = nI n) (xw_B D zCl (zT ca) (va_A (zW ca ad M) sz) (zW ca ad)) (va_A (zW ca ad M) sz)) args s 0 0 (va_A (zW ca ad M) sz)) 144 [(0, .ref (ad 38)), (1, .int x), (2, .int y), (3, .int z), (4, .int o), (6, .int (nI i))] [] := by
    intro hmd0 hn6 hisT d
    induction d using Nat.strongRecOn with
    | _ d ih =>
      intro i M1 hd hi hM1
      have hz1 : M1 38 2 = nI n := by rw [hM1, zCn4_out (by omega)]; unfold zApY; rw [zst_ap, if_neg (by omega), zst_ap, if_neg (by omega), zst_ap, if_neg (by omega), zst_ap, if_neg (by omega), zst_ap, if_neg (by omega), zst_ap, if_neg (by omega)]; exact hz
      refine xw_iload C 5 d_Md_task_144 rfl (pc' := 146) rfl ?_
      refine xw_iconst C (v := nI 4) d_Md_task_146 (by decide) (pc' := 147) rfl ?_
      refine xw_icmp_ge C (tgt := 171) d_Md_task_147 (by decide) (pc' := 150) rfl (fun h147 => ?_) (fun h147 => ?_)
      ·
        replace h147 : 4 ≤ i := (nI_leI (by omega) (by omega)).mp h147
        refine xw_aload_n C 0 d_Md_task_171 rfl rfl (pc' := 172) rfl ?_
        refine xw_dup C d_Md_task_172 rfl (pc' := 173) rfl ?_
        refine xw_get C u_Md 38 zr_38 rfl 2 (by decide) k_572 rfl rfl d_Md_task_173 (pc' := 176) rfl ?_
        refine xw_topi (y := nI n) hz1 ?_
        refine xw_iconst C (v := nI 1) d_Md_task_176 (by decide) (pc' := 177) rfl ?_
        refine xw_iadd C d_Md_task_177 (pc' := 178) rfl ?_
        refine xw_topi (y := nI (n + 1)) (nI_add _ _) ?_
        obtain ⟨M51, hM51⟩ : ∃ zq, zq = zst M1 38 2 (nI (n + 1)) := ⟨_, rfl⟩
        have t38_2_M51 : M51 38 2 = nI (n + 1) := by rw [hM51, zst_ap, if_pos ⟨rfl, rfl⟩]
        refine xw_put C u_Md t_Md t_Md_ok n_Md 38 zr_38 rfl 2 (by decide) k_572 rfl rfl (t_Md_ok 2 (by decide)) rfl rfl (Nat.le_of_ble_eq_true rfl) (ws' := zW ca ad M51) (by rw [hM51]; exact zs_38_2 _) d_Md_task_178 (pc' := 181) rfl ?_
        refine xw_aload_n C 0 d_Md_task_181 rfl rfl (pc' := 182) rfl ?_
        refine xw_get C u_Md 38 zr_38 rfl 2 (by decide) k_572 rfl rfl d_Md_task_182 (pc' := 185) rfl ?_
        refine xw_topi (y := nI (n + 1)) t38_2_M51 ?_
        refine xw_iconst C (v := nI 1) d_Md_task_185 (by decide) (pc' := 186) rfl ?_
        refine xw_isub C d_Md_task_186 (pc' := 187) rfl ?_
        refine xw_topi (y := nI ((n + 1) - 1)) (pk_sub (by omega)) ?_
        refine xw_iret C hr hlk (F := zW ca ad) M51 rfl ?_ d_Md_task_187
        exact Or.inr (Or.inr ⟨hmd0, hn6, hisT, by rw [hM51, hM1, show i = 4 by omega], rfl⟩)
      ·
        replace h147 : ¬ (4 ≤ i) := fun hneg => h147 ((nI_leI (by omega) (by omega)).mpr hneg)
        refine xw_aload_n C 0 d_Md_task_150 rfl rfl (pc' := 151) rfl ?_
        refine xw_get C u_Md 38 zr_38 rfl 20 (by decide) k_590 rfl rfl d_Md_task_151 (pc' := 154) rfl ?_
        refine xw_iconst C (v := nI 4) d_Md_task_154 (by decide) (pc' := 155) rfl ?_
        refine xw_aload_n C 0 d_Md_task_155 rfl rfl (pc' := 156) rfl ?_
        refine xw_get C u_Md 38 zr_38 rfl 2 (by decide) k_572 rfl rfl d_Md_task_156 (pc' := 159) rfl ?_
        refine xw_topi (y := nI n) hz1 ?_
        refine xw_imul C d_Md_task_159 (pc' := 160) rfl ?_
        refine xw_topi (y := nI (4 * n)) (pk_mul _ _) ?_
        refine xw_iload C 5 d_Md_task_160 rfl (pc' := 162) rfl ?_
        refine xw_iadd C d_Md_task_162 (pc' := 163) rfl ?_
        refine xw_topi (y := nI ((4 * n) + i)) (nI_add _ _) ?_
        refine xw_iconst C (v := nI 0) d_Md_task_163 (by decide) (pc' := 164) rfl ?_
        obtain ⟨M52, hM52⟩ : ∃ zq, zq = zst M1 54 ((4 * n) + i) (nI 0) := ⟨_, rfl⟩
        have t38_2_M52 : M52 38 2 = nI n := by rw [hM52, zst_ap, if_neg (by omega)]; exact hz1
        refine xw_iast C 54 0 zr_54 rfl ((4 * n) + i) rfl (by omega) (by decide) (ws' := zW ca ad M52) (by rw [hM52]; exact zs_54 _ _) d_Md_task_164 (pc' := 165) rfl ?_
        refine xw_iinc C 5 (v := nI (i + 1)) d_Md_task_165 rfl (xp_inc1 _) (by decide) rfl (pc' := 168) rfl ?_
        refine xw_goto C (tgt := 144) d_Md_task_168 (by decide) ?_
        refine xw_lv [1, 2, 3, 4, 5, 0] rfl ?_
        exact ih (4 - (i + 1)) (by omega) (i + 1) M52 rfl (by omega) (by rw [hM52, hM1]; rfl)
  have mid1 : ∀ (g : Nat), g ≤ 1 → (g = 1 ∧ sp_isT x y z o ∨ g = 0 ∧ ¬ sp_isT x y z o) → XW p l e { frames := 1, cells := 0, slots := 0, locals := 21 } s m args below meth c D zCl (va_A (zW ca ad M) sz) s.heap 7 (zW ca ad M) 0 0 (MQ below (va_Qi (fun r M' => (md = 1 ∨ n = 6) ∧ M' = zst M 38 0 (nI 1) ∨ md = 0 ∧ n < 6 ∧ ¬ sp_isT x y z o ∧ M' = zst M 38 0 (nI 2) ∨ md = 0 ∧ n < 6 ∧ sp_isT x y z o ∧ M' = zst (zCn4 (zApY M n x y z o) n 4) 38 2 (nI (n + 1)) ∧ r = nI n) (xw_B D zCl (zT ca) (va_A (zW ca ad M) sz) (zW ca ad)) (va_A (zW ca ad M) sz)) args s 0 0 (va_A (zW ca ad M) sz)) 43 [(0, .ref (ad 38)), (1, .int x), (2, .int y), (3, .int z), (4, .int o)] [.int (nI g)] := by
      intro g hg hgg
      refine xw_istore C d_Md_task_43 (by decide) rfl (pc' := 45) rfl ?_
      refine xw_aload_n C 1 d_Md_task_45 rfl rfl (pc' := 46) rfl ?_
      refine xw_aload_n C 1 d_Md_task_46 rfl rfl (pc' := 47) rfl ?_
      refine xw_get C u_Md 38 zr_38 rfl 1 (by decide) k_571 rfl rfl d_Md_task_47 (pc' := 50) rfl ?_
      refine xw_topi (y := nI md) hmd ?_
      refine xw_if_ne C (tgt := 62) d_Md_task_50 (by decide) (pc' := 53) rfl (fun h50 => ?_) (fun h50 => ?_)
      ·
        replace h50 : ¬ (md = 0) := fun hneg => h50 ((xp_eq0 (by omega)).mpr hneg)
        refine xw_iconst C (v := nI 1) d_Md_task_62 (by decide) (pc' := 63) rfl ?_
        refine xw_goto C (tgt := 76) d_Md_task_63 (by decide) ?_
        refine xw_callVi C (c_Md_refused l D ca ad M 1 (by omega)) ⟨zg_B C 1 k_646 k_31 k_649 q_Md_refused ⟨by decide, by decide⟩, C.2.2.2.2.1 _ k_648, C.2.2.2.2.1 _ k_10⟩ 38 zr_38 rfl rfl (fun _ _ _ _ h => h) (fun _ _ _ _ _ _ _ => trivial) rfl rfl (Nat.le_of_ble_eq_true rfl) d_Md_task_76 ⟨by decide, by decide⟩ (pc' := 79) rfl (fun r51 M52 hp53 => ?_)
        obtain ⟨hM52, hre⟩ := hp53
        refine xw_topi (y := nI 1) (by rw [hre]; rfl) ?_
        clear hre
        have t38_2_M52 : M52 38 2 = nI n := by rw [hM52, zst_ap, if_neg (by omega)]; exact hz
        refine xw_if_eq C (tgt := 84) d_Md_task_79 (by decide) (pc' := 82) rfl (fun h79 => ?_) (fun h79 => ?_)
        ·
          replace h79 : 1 = 0 := (xp_eq0 (by omega)).mp h79
          omega
        ·
          replace h79 : ¬ (1 = 0) := fun hneg => h79 ((xp_eq0 (by omega)).mpr hneg)
          refine xw_iconst C (v := nI 0) d_Md_task_82 (by decide) (pc' := 83) rfl ?_
          refine xw_iret C hr hlk (F := zW ca ad) M52 rfl ?_ d_Md_task_83
          exact Or.inl ⟨by omega, hM52⟩
      ·
        replace h50 : md = 0 := (xp_eq0 (by omega)).mp h50
        refine xw_aload_n C 1 d_Md_task_53 rfl rfl (pc' := 54) rfl ?_
        refine xw_get C u_Md 38 zr_38 rfl 2 (by decide) k_572 rfl rfl d_Md_task_54 (pc' := 57) rfl ?_
        refine xw_topi (y := nI n) hz ?_
        refine xw_bipush C (v := nI 6) d_Md_task_57 (by decide) (pc' := 59) rfl ?_
        refine xw_icmp_ne C (tgt := 66) d_Md_task_59 (by decide) (pc' := 62) rfl (fun h59 => ?_) (fun h59 => ?_)
        ·
          replace h59 : ¬ (n = 6) := fun hneg => h59 ((nI_eq (by omega) (by omega)).mpr hneg)
          refine xw_iload C 0 d_Md_task_66 rfl (pc' := 68) rfl ?_
          refine xw_if_eq C (tgt := 75) d_Md_task_68 (by decide) (pc' := 71) rfl (fun h68 => ?_) (fun h68 => ?_)
          ·
            replace h68 : g = 0 := (xp_eq0 (by omega)).mp h68
            refine xw_iconst C (v := nI 2) d_Md_task_75 (by decide) (pc' := 76) rfl ?_
            refine xw_callVi C (c_Md_refused l D ca ad M 2 (by omega)) ⟨zg_B C 1 k_646 k_31 k_649 q_Md_refused ⟨by decide, by decide⟩, C.2.2.2.2.1 _ k_648, C.2.2.2.2.1 _ k_10⟩ 38 zr_38 rfl rfl (fun _ _ _ _ h => h) (fun _ _ _ _ _ _ _ => trivial) rfl rfl (Nat.le_of_ble_eq_true rfl) d_Md_task_76 ⟨by decide, by decide⟩ (pc' := 79) rfl (fun r54 M55 hp56 => ?_)
            obtain ⟨hM55, hre⟩ := hp56
            refine xw_topi (y := nI 1) (by rw [hre]; rfl) ?_
            clear hre
            have t38_2_M55 : M55 38 2 = nI n := by rw [hM55, zst_ap, if_neg (by omega)]; exact hz
            refine xw_if_eq C (tgt := 84) d_Md_task_79 (by decide) (pc' := 82) rfl (fun h79 => ?_) (fun h79 => ?_)
            ·
              replace h79 : 1 = 0 := (xp_eq0 (by omega)).mp h79
              omega
            ·
              replace h79 : ¬ (1 = 0) := fun hneg => h79 ((xp_eq0 (by omega)).mpr hneg)
              refine xw_iconst C (v := nI 0) d_Md_task_82 (by decide) (pc' := 83) rfl ?_
              refine xw_iret C hr hlk (F := zW ca ad) M55 rfl ?_ d_Md_task_83
              exact Or.inr (Or.inl ⟨by omega, by omega, by rcases hgg with q | q; omega; exact q.2, hM55⟩)
          ·
            replace h68 : ¬ (g = 0) := fun hneg => h68 ((xp_eq0 (by omega)).mpr hneg)
            refine xw_iconst C (v := nI 0) d_Md_task_71 (by decide) (pc' := 72) rfl ?_
            refine xw_goto C (tgt := 76) d_Md_task_72 (by decide) ?_
            refine xw_callVi C (c_Md_refused l D ca ad M 0 (by omega)) ⟨zg_B C 1 k_646 k_31 k_649 q_Md_refused ⟨by decide, by decide⟩, C.2.2.2.2.1 _ k_648, C.2.2.2.2.1 _ k_10⟩ 38 zr_38 rfl rfl (fun _ _ _ _ h => h) (fun _ _ _ _ _ _ _ => trivial) rfl rfl (Nat.le_of_ble_eq_true rfl) d_Md_task_76 ⟨by decide, by decide⟩ (pc' := 79) rfl (fun r57 M58 hp59 => ?_)
            obtain ⟨hM58, hre⟩ := hp59
            refine xw_topi (y := nI 0) (by rw [hre]; rfl) ?_
            clear hre
            have t38_2_M58 : M58 38 2 = nI n := by rw [hM58, zst_ap, if_neg (by omega)]; exact hz
            refine xw_if_eq C (tgt := 84) d_Md_task_79 (by decide) (pc' := 82) rfl (fun h79 => ?_) (fun h79 => ?_)
            ·
              replace h79 : 0 = 0 := (xp_eq0 (by omega)).mp h79
              refine xw_aload_n C 1 d_Md_task_84 rfl rfl (pc' := 85) rfl ?_
              refine xw_get C u_Md 38 zr_38 rfl 3 (by decide) k_573 rfl rfl d_Md_task_85 (pc' := 88) rfl ?_
              refine xw_aload_n C 1 d_Md_task_88 rfl rfl (pc' := 89) rfl ?_
              refine xw_get C u_Md 38 zr_38 rfl 2 (by decide) k_572 rfl rfl d_Md_task_89 (pc' := 92) rfl ?_
              refine xw_topi (y := nI n) t38_2_M58 ?_
              refine xw_iload_n C 2 d_Md_task_92 rfl rfl (pc' := 93) rfl ?_
              obtain ⟨M60, hM60⟩ : ∃ zq, zq = zst M58 39 n x := ⟨_, rfl⟩
              have t38_2_M60 : M60 38 2 = nI n := by rw [hM60, zst_ap, if_neg (by omega)]; exact t38_2_M58
              refine xw_iast C 39 0 zr_39 rfl n rfl (by omega) (by decide) (ws' := zW ca ad M60) (by rw [hM60]; exact zs_39 _ _) d_Md_task_93 (pc' := 94) rfl ?_
              refine xw_aload_n C 1 d_Md_task_94 rfl rfl (pc' := 95) rfl ?_
              refine xw_get C u_Md 38 zr_38 rfl 4 (by decide) k_574 rfl rfl d_Md_task_95 (pc' := 98) rfl ?_
              refine xw_aload_n C 1 d_Md_task_98 rfl rfl (pc' := 99) rfl ?_
              refine xw_get C u_Md 38 zr_38 rfl 2 (by decide) k_572 rfl rfl d_Md_task_99 (pc' := 102) rfl ?_
              refine xw_topi (y := nI n) t38_2_M60 ?_
              refine xw_iload_n C 3 d_Md_task_102 rfl rfl (pc' := 103) rfl ?_
              obtain ⟨M61, hM61⟩ : ∃ zq, zq = zst M60 40 n y := ⟨_, rfl⟩
              have t38_2_M61 : M61 38 2 = nI n := by rw [hM61, zst_ap, if_neg (by omega)]; exact t38_2_M60
              refine xw_iast C 40 0 zr_40 rfl n rfl (by omega) (by decide) (ws' := zW ca ad M61) (by rw [hM61]; exact zs_40 _ _) d_Md_task_103 (pc' := 104) rfl ?_
              refine xw_aload_n C 1 d_Md_task_104 rfl rfl (pc' := 105) rfl ?_
              refine xw_get C u_Md 38 zr_38 rfl 5 (by decide) k_575 rfl rfl d_Md_task_105 (pc' := 108) rfl ?_
              refine xw_aload_n C 1 d_Md_task_108 rfl rfl (pc' := 109) rfl ?_
              refine xw_get C u_Md 38 zr_38 rfl 2 (by decide) k_572 rfl rfl d_Md_task_109 (pc' := 112) rfl ?_
              refine xw_topi (y := nI n) t38_2_M61 ?_
              refine xw_iload_n C 4 d_Md_task_112 rfl rfl (pc' := 113) rfl ?_
              obtain ⟨M62, hM62⟩ : ∃ zq, zq = zst M61 41 n z := ⟨_, rfl⟩
              have t38_2_M62 : M62 38 2 = nI n := by rw [hM62, zst_ap, if_neg (by omega)]; exact t38_2_M61
              refine xw_iast C 41 0 zr_41 rfl n rfl (by omega) (by decide) (ws' := zW ca ad M62) (by rw [hM62]; exact zs_41 _ _) d_Md_task_113 (pc' := 114) rfl ?_
              refine xw_aload_n C 1 d_Md_task_114 rfl rfl (pc' := 115) rfl ?_
              refine xw_get C u_Md 38 zr_38 rfl 6 (by decide) k_576 rfl rfl d_Md_task_115 (pc' := 118) rfl ?_
              refine xw_aload_n C 1 d_Md_task_118 rfl rfl (pc' := 119) rfl ?_
              refine xw_get C u_Md 38 zr_38 rfl 2 (by decide) k_572 rfl rfl d_Md_task_119 (pc' := 122) rfl ?_
              refine xw_topi (y := nI n) t38_2_M62 ?_
              refine xw_iload C 5 d_Md_task_122 rfl (pc' := 124) rfl ?_
              obtain ⟨M63, hM63⟩ : ∃ zq, zq = zst M62 42 n o := ⟨_, rfl⟩
              have t38_2_M63 : M63 38 2 = nI n := by rw [hM63, zst_ap, if_neg (by omega)]; exact t38_2_M62
              refine xw_iast C 42 0 zr_42 rfl n rfl (by omega) (by decide) (ws' := zW ca ad M63) (by rw [hM63]; exact zs_42 _ _) d_Md_task_124 (pc' := 125) rfl ?_
              refine xw_aload_n C 1 d_Md_task_125 rfl rfl (pc' := 126) rfl ?_
              refine xw_get C u_Md 38 zr_38 rfl 7 (by decide) k_577 rfl rfl d_Md_task_126 (pc' := 129) rfl ?_
              refine xw_aload_n C 1 d_Md_task_129 rfl rfl (pc' := 130) rfl ?_
              refine xw_get C u_Md 38 zr_38 rfl 2 (by decide) k_572 rfl rfl d_Md_task_130 (pc' := 133) rfl ?_
              refine xw_topi (y := nI n) t38_2_M63 ?_
              refine xw_bipush C (v := nI 8) d_Md_task_133 (by decide) (pc' := 135) rfl ?_
              refine xw_aload_n C 1 d_Md_task_135 rfl rfl (pc' := 136) rfl ?_
              refine xw_get C u_Md 38 zr_38 rfl 2 (by decide) k_572 rfl rfl d_Md_task_136 (pc' := 139) rfl ?_
              refine xw_topi (y := nI n) t38_2_M63 ?_
              refine xw_imul C d_Md_task_139 (pc' := 140) rfl ?_
              refine xw_topi (y := nI (8 * n)) (pk_mul _ _) ?_
              obtain ⟨M64, hM64⟩ : ∃ zq, zq = zst M63 43 n (nI (8 * n)) := ⟨_, rfl⟩
              have t38_2_M64 : M64 38 2 = nI n := by rw [hM64, zst_ap, if_neg (by omega)]; exact t38_2_M63
              refine xw_iast C 43 0 zr_43 rfl n rfl (by omega) (by decide) (ws' := zW ca ad M64) (by rw [hM64]; exact zs_43 _ _) d_Md_task_140 (pc' := 141) rfl ?_
              refine xw_iconst C (v := nI 0) d_Md_task_141 (by decide) (pc' := 142) rfl ?_
              refine xw_istore C d_Md_task_142 (by decide) rfl (pc' := 144) rfl ?_
              refine xw_lv [2, 3, 4, 5, 6, 0] rfl ?_
              exact loop1 (by omega) (by omega) (by rcases hgg with q | q; exact q.2; omega) 4 0 M64 rfl (by omega) (by rw [hM64, hM63, hM62, hM61, hM60, hM58]; rfl)
            ·
              replace h79 : ¬ (0 = 0) := fun hneg => h79 ((xp_eq0 (by omega)).mpr hneg)
              omega
        ·
          replace h59 : n = 6 := (nI_eq (by omega) (by omega)).mp h59
          refine xw_iconst C (v := nI 1) d_Md_task_62 (by decide) (pc' := 63) rfl ?_
          refine xw_goto C (tgt := 76) d_Md_task_63 (by decide) ?_
          refine xw_callVi C (c_Md_refused l D ca ad M 1 (by omega)) ⟨zg_B C 1 k_646 k_31 k_649 q_Md_refused ⟨by decide, by decide⟩, C.2.2.2.2.1 _ k_648, C.2.2.2.2.1 _ k_10⟩ 38 zr_38 rfl rfl (fun _ _ _ _ h => h) (fun _ _ _ _ _ _ _ => trivial) rfl rfl (Nat.le_of_ble_eq_true rfl) d_Md_task_76 ⟨by decide, by decide⟩ (pc' := 79) rfl (fun r65 M66 hp67 => ?_)
          obtain ⟨hM66, hre⟩ := hp67
          refine xw_topi (y := nI 1) (by rw [hre]; rfl) ?_
          clear hre
          have t38_2_M66 : M66 38 2 = nI n := by rw [hM66, zst_ap, if_neg (by omega)]; exact hz
          refine xw_if_eq C (tgt := 84) d_Md_task_79 (by decide) (pc' := 82) rfl (fun h79 => ?_) (fun h79 => ?_)
          ·
            replace h79 : 1 = 0 := (xp_eq0 (by omega)).mp h79
            omega
          ·
            replace h79 : ¬ (1 = 0) := fun hneg => h79 ((xp_eq0 (by omega)).mpr hneg)
            refine xw_iconst C (v := nI 0) d_Md_task_82 (by decide) (pc' := 83) rfl ?_
            refine xw_iret C hr hlk (F := zW ca ad) M66 rfl ?_ d_Md_task_83
            exact Or.inl ⟨by omega, hM66⟩
  refine xw_lvE (lv' := [(0, .ref (ad 38)), (1, .int x), (2, .int y), (3, .int z), (4, .int o)]) rfl ?_
  refine xw_iload_n C 1 d_Md_task_0 rfl rfl (pc' := 1) rfl ?_
  refine xw_iconst C (v := nI 1) d_Md_task_1 (by decide) (pc' := 2) rfl ?_
  refine xw_icmp_lt C (tgt := 42) d_Md_task_2 (by decide) (pc' := 5) rfl (fun h2 => ?_) (fun h2 => ?_)
  ·
    refine xw_iconst C (v := nI 0) d_Md_task_42 (by decide) (pc' := 43) rfl ?_
    refine mid1 0 (by omega) (Or.inr ⟨rfl, fun hq => ?_⟩)
    obtain ⟨g1, g2, g3, g4, g5, g6, g7⟩ := hq
    first | exact g1 h2 | exact g2 h8 | exact g3 h13 | exact g4 h18 | exact g5 h23 | exact g6 h28 | exact g7 h35
  ·
    refine xw_iload_n C 1 d_Md_task_5 rfl rfl (pc' := 6) rfl ?_
    refine xw_bipush C (v := nI 48) d_Md_task_6 (by decide) (pc' := 8) rfl ?_
    refine xw_icmp_gt C (tgt := 42) d_Md_task_8 (by decide) (pc' := 11) rfl (fun h8 => ?_) (fun h8 => ?_)
    ·
      refine xw_iconst C (v := nI 0) d_Md_task_42 (by decide) (pc' := 43) rfl ?_
      refine mid1 0 (by omega) (Or.inr ⟨rfl, fun hq => ?_⟩)
      obtain ⟨g1, g2, g3, g4, g5, g6, g7⟩ := hq
      first | exact g1 h2 | exact g2 h8 | exact g3 h13 | exact g4 h18 | exact g5 h23 | exact g6 h28 | exact g7 h35
    ·
      refine xw_iload_n C 2 d_Md_task_11 rfl rfl (pc' := 12) rfl ?_
      refine xw_iconst C (v := nI 1) d_Md_task_12 (by decide) (pc' := 13) rfl ?_
      refine xw_icmp_lt C (tgt := 42) d_Md_task_13 (by decide) (pc' := 16) rfl (fun h13 => ?_) (fun h13 => ?_)
      ·
        refine xw_iconst C (v := nI 0) d_Md_task_42 (by decide) (pc' := 43) rfl ?_
        refine mid1 0 (by omega) (Or.inr ⟨rfl, fun hq => ?_⟩)
        obtain ⟨g1, g2, g3, g4, g5, g6, g7⟩ := hq
        first | exact g1 h2 | exact g2 h8 | exact g3 h13 | exact g4 h18 | exact g5 h23 | exact g6 h28 | exact g7 h35
      ·
        refine xw_iload_n C 2 d_Md_task_16 rfl rfl (pc' := 17) rfl ?_
        refine xw_iload_n C 3 d_Md_task_17 rfl rfl (pc' := 18) rfl ?_
        refine xw_icmp_gt C (tgt := 42) d_Md_task_18 (by decide) (pc' := 21) rfl (fun h18 => ?_) (fun h18 => ?_)
        ·
          refine xw_iconst C (v := nI 0) d_Md_task_42 (by decide) (pc' := 43) rfl ?_
          refine mid1 0 (by omega) (Or.inr ⟨rfl, fun hq => ?_⟩)
          obtain ⟨g1, g2, g3, g4, g5, g6, g7⟩ := hq
          first | exact g1 h2 | exact g2 h8 | exact g3 h13 | exact g4 h18 | exact g5 h23 | exact g6 h28 | exact g7 h35
        ·
          refine xw_iload_n C 3 d_Md_task_21 rfl rfl (pc' := 22) rfl ?_
          refine xw_iload_n C 1 d_Md_task_22 rfl rfl (pc' := 23) rfl ?_
          refine xw_icmp_gt C (tgt := 42) d_Md_task_23 (by decide) (pc' := 26) rfl (fun h23 => ?_) (fun h23 => ?_)
          ·
            refine xw_iconst C (v := nI 0) d_Md_task_42 (by decide) (pc' := 43) rfl ?_
            refine mid1 0 (by omega) (Or.inr ⟨rfl, fun hq => ?_⟩)
            obtain ⟨g1, g2, g3, g4, g5, g6, g7⟩ := hq
            first | exact g1 h2 | exact g2 h8 | exact g3 h13 | exact g4 h18 | exact g5 h23 | exact g6 h28 | exact g7 h35
          ·
            refine xw_iload C 4 d_Md_task_26 rfl (pc' := 28) rfl ?_
            refine xw_if_lt C (tgt := 42) d_Md_task_28 (by decide) (pc' := 31) rfl (fun h28 => ?_) (fun h28 => ?_)
            ·
              refine xw_iconst C (v := nI 0) d_Md_task_42 (by decide) (pc' := 43) rfl ?_
              refine mid1 0 (by omega) (Or.inr ⟨rfl, fun hq => ?_⟩)
              obtain ⟨g1, g2, g3, g4, g5, g6, g7⟩ := hq
              first | exact g1 h2 | exact g2 h8 | exact g3 h13 | exact g4 h18 | exact g5 h23 | exact g6 h28 | exact g7 h35
            ·
              refine xw_iload C 4 d_Md_task_31 rfl (pc' := 33) rfl ?_
              refine xw_bipush C (v := nI 48) d_Md_task_33 (by decide) (pc' := 35) rfl ?_
              refine xw_icmp_gt C (tgt := 42) d_Md_task_35 (by decide) (pc' := 38) rfl (fun h35 => ?_) (fun h35 => ?_)
              ·
                refine xw_iconst C (v := nI 0) d_Md_task_42 (by decide) (pc' := 43) rfl ?_
                refine mid1 0 (by omega) (Or.inr ⟨rfl, fun hq => ?_⟩)
                obtain ⟨g1, g2, g3, g4, g5, g6, g7⟩ := hq
                first | exact g1 h2 | exact g2 h8 | exact g3 h13 | exact g4 h18 | exact g5 h23 | exact g6 h28 | exact g7 h35
              ·
                refine xw_iconst C (v := nI 1) d_Md_task_38 (by decide) (pc' := 39) rfl ?_
                refine xw_goto C (tgt := 43) d_Md_task_39 (by decide) ?_
                exact mid1 1 (by omega) (Or.inl ⟨rfl, h2, h8, h13, h18, h23, h28, h35⟩)
