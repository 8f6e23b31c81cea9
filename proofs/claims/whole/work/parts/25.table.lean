/-- the slots out of the first x ticks' owners, the newest first: start, length, task -/
def bs (g : Nat → Option Nat) : Nat → List (Nat × Nat × Nat)
  | 0 => []
  | x + 1 => match g x with
    | none => bs g x
    | some t => if 0 < x ∧ g (x - 1) = some t then (match bs g x with
      | [] => []
      | q :: r => (q.1, q.2.1 + 1, q.2.2) :: r) else (x, 1, t) :: bs g x
theorem bs_none {g : Nat → Option Nat} {x : Nat} (h : g x = none) : bs g (x + 1) = bs g x := by
  show (match g x with
    | none => bs g x
    | some t => _) = bs g x
  rw [h]
theorem bs_ext {g : Nat → Option Nat} {x t : Nat} {q : Nat × Nat × Nat} {r : List (Nat × Nat × Nat)} (h : g x = some t) (h0 : 0 < x) (h1 : g (x - 1) = some t) (hr : bs g x = q :: r) : bs g (x + 1) = (q.1, q.2.1 + 1, q.2.2) :: r := by
  unfold bs
  rw [h]
  dsimp only
  rw [if_pos ⟨h0, h1⟩, hr]
theorem bs_new {g : Nat → Option Nat} {x t : Nat} (h : g x = some t) (h1 : ¬ (0 < x ∧ g (x - 1) = some t)) : bs g (x + 1) = (x, 1, t) :: bs g x := by
  show (match g x with
    | none => bs g x
    | some t => _) = _
  rw [h]
  dsimp only
  rw [if_neg h1]
theorem bs_ne {g : Nat → Option Nat} {x t : Nat} (h : g x = some t) : bs g (x + 1) ≠ [] := by
  induction x generalizing t with
  | zero => rw [bs_new h (fun h9 => absurd h9.1 (Nat.lt_irrefl 0))]; exact List.cons_ne_nil _ _
  | succ x ih =>
    by_cases c : 0 < x + 1 ∧ g (x + 1 - 1) = some t
    · rcases hq : bs g (x + 1) with _ | ⟨q, r⟩
      · exact absurd hq (ih c.2)
      · rw [bs_ext h c.1 c.2 hq]; exact List.cons_ne_nil _ _
    · rw [bs_new h c]; exact List.cons_ne_nil _ _
theorem bs_len1 {g : Nat → Option Nat} {x : Nat} : (bs g x).length ≤ (bs g (x + 1)).length := by
  rcases hg : g x with _ | t
  · rw [bs_none hg]; exact Nat.le_refl _
  · by_cases c : 0 < x ∧ g (x - 1) = some t
    · rcases hq : bs g x with _ | ⟨q, r⟩
      · exact Nat.zero_le _
      · rw [bs_ext hg c.1 c.2 hq]; exact Nat.le_refl _
    · rw [bs_new hg c]; exact Nat.le_succ _
theorem bs_mono {g : Nat → Option Nat} {x y : Nat} (h : x ≤ y) : (bs g x).length ≤ (bs g y).length := by
  induction y with
  | zero => rw [show x = 0 by omega]; exact Nat.le_refl _
  | succ y ih =>
    rcases Nat.lt_or_ge x (y + 1) with c | c
    · exact Nat.le_trans (ih (by omega)) bs_len1
    · rw [show x = y + 1 by omega]; exact Nat.le_refl _
/-- three rows hold the slots -/
def bsR (M : Nat → Nat → Int32) (k4 k5 k6 : Nat) : List (Nat × Nat × Nat) → Prop
  | [] => True
  | q :: r => M k4 r.length = nI q.1 ∧ M k5 r.length = nI q.2.1 ∧ M k6 r.length = nI q.2.2 ∧ bsR M k4 k5 k6 r
theorem bsR.keep {M M1 : Nat → Nat → Int32} {k4 k5 k6 : Nat} {L : List (Nat × Nat × Nat)} (h : bsR M k4 k5 k6 L) (h1 : ∀ j, j < L.length → M1 k4 j = M k4 j ∧ M1 k5 j = M k5 j ∧ M1 k6 j = M k6 j) : bsR M1 k4 k5 k6 L := by
  induction L with
  | nil => trivial
  | cons q r ih =>
    obtain ⟨a, b, c, d⟩ := h
    have e := h1 r.length (Nat.lt_succ_self _)
    exact ⟨e.1.trans a, e.2.1.trans b, e.2.2.trans c, ih d (fun j hj => h1 j (Nat.lt_succ_of_lt hj))⟩
def zPut (M : Nat → Nat → Int32) (i k : Nat) (a b c : Int32) : Nat → Nat → Int32 := if i = k then zst (zst (zst (zst M 4 i a) 5 i b) 6 i c) 3 0 (nI (k + 1)) else zst (zst (zst M 4 i a) 5 i b) 6 i c

set_option maxHeartbeats 4000000 in
set_option maxRecDepth 100000 in
/-- part -/
theorem c_Tb_part (l : Launch) (D : va_G) (ca : Nat → ClassId) (ad : Nat → Nat) (M : Nat → Nat → Int32) (i w : Nat) (hi : i < 60) (hw : w < 3) : xw_Mi l y_Tb_part (.code y_Tb_part b_Tb_part 3 (some .int) :: zG) { frames := 0, cells := 0, slots := 0, locals := 0 } D zCl (zT ca) [.ref (ad 3), .int (nI i), .int (nI w)] (zW ca ad M) (fun _ => True) 0 0 (zW ca ad) (fun r M' => M' = M ∧ r = if w = 0 then M 4 i else if w = 1 then M 5 i else M 6 i) := by
  intro sz
  refine xw_met (cc := b_Tb_part) (maxL := 3) (ret := (some .int)) (by decide) rfl (Nat.le_of_ble_eq_true rfl) (fun p e s m args below meth c hr hlk hnm hsz hKs C => ?_)
  refine xw_lvE (lv' := [(0, .ref (ad 3)), (1, .int (nI i)), (2, .int (nI w))]) rfl ?_
  refine xw_iload_n C 2 d_Tb_part_0 rfl rfl (pc' := 1) rfl ?_
  rcases (show w = 0 ∨ w = 1 ∨ w = 2 by omega) with rfl | rfl | rfl
  ·
    refine xw_lookup C (off := 27) (tgt := 28) d_Tb_part_1 (by decide) (by decide) (by decide) ?_
    refine xw_aload_n C 0 d_Tb_part_28 rfl rfl (pc' := 29) rfl ?_
    refine xw_get C u_Tb 3 zr_3 rfl 0 (by decide) k_140 rfl rfl d_Tb_part_29 (pc' := 32) rfl ?_
    refine xw_iload_n C 1 d_Tb_part_32 rfl rfl (pc' := 33) rfl ?_
    refine xw_iald C 4 0 zr_4 rfl i rfl (by omega) (by decide) d_Tb_part_33 (pc' := 34) rfl ?_
    refine xw_iret C hr hlk (F := zW ca ad) M rfl ?_ d_Tb_part_34
    exact ⟨rfl, rfl⟩
  ·
    refine xw_lookup C (off := 34) (tgt := 35) d_Tb_part_1 (by decide) (by decide) (by decide) ?_
    refine xw_aload_n C 0 d_Tb_part_35 rfl rfl (pc' := 36) rfl ?_
    refine xw_get C u_Tb 3 zr_3 rfl 1 (by decide) k_141 rfl rfl d_Tb_part_36 (pc' := 39) rfl ?_
    refine xw_iload_n C 1 d_Tb_part_39 rfl rfl (pc' := 40) rfl ?_
    refine xw_iald C 5 0 zr_5 rfl i rfl (by omega) (by decide) d_Tb_part_40 (pc' := 41) rfl ?_
    refine xw_iret C hr hlk (F := zW ca ad) M rfl ?_ d_Tb_part_41
    exact ⟨rfl, rfl⟩
  ·
    refine xw_lookup C (off := 41) (tgt := 42) d_Tb_part_1 (by decide) (by decide) (by decide) ?_
    refine xw_aload_n C 0 d_Tb_part_42 rfl rfl (pc' := 43) rfl ?_
    refine xw_get C u_Tb 3 zr_3 rfl 2 (by decide) k_142 rfl rfl d_Tb_part_43 (pc' := 46) rfl ?_
    refine xw_iload_n C 1 d_Tb_part_46 rfl rfl (pc' := 47) rfl ?_
    refine xw_iald C 6 0 zr_6 rfl i rfl (by omega) (by decide) d_Tb_part_47 (pc' := 48) rfl ?_
    refine xw_iret C hr hlk (F := zW ca ad) M rfl ?_ d_Tb_part_48
    exact ⟨rfl, rfl⟩

set_option maxHeartbeats 4000000 in
set_option maxRecDepth 100000 in
/-- put -/
theorem c_Tb_put (l : Launch) (D : va_G) (ca : Nat → ClassId) (ad : Nat → Nat) (M : Nat → Nat → Int32) (i k : Nat) (x y z : Int32) (hi : i < 60) (hk : k ≤ 60) (hz : M 3 0 = nI k) : xw_Mv l y_Tb_put (.code y_Tb_put b_Tb_put 5 none :: zG) { frames := 0, cells := 0, slots := 0, locals := 0 } D zCl (zT ca) [.ref (ad 3), .int (nI i), .int x, .int y, .int z] (zW ca ad M) (fun _ => True) 0 0 (zW ca ad) (fun M' => M' = zPut M i k x y z) := by
  intro sz
  refine xw_met (cc := b_Tb_put) (maxL := 5) (ret := none) (by decide) rfl (Nat.le_of_ble_eq_true rfl) (fun p e s m args below meth c hr hlk hnm hsz hKs C => ?_)
  refine xw_lvE (lv' := [(0, .ref (ad 3)), (1, .int (nI i)), (2, .int x), (3, .int y), (4, .int z)]) rfl ?_
  refine xw_aload_n C 0 d_Tb_put_0 rfl rfl (pc' := 1) rfl ?_
  refine xw_get C u_Tb 3 zr_3 rfl 0 (by decide) k_140 rfl rfl d_Tb_put_1 (pc' := 4) rfl ?_
  refine xw_iload_n C 1 d_Tb_put_4 rfl rfl (pc' := 5) rfl ?_
  refine xw_iload_n C 2 d_Tb_put_5 rfl rfl (pc' := 6) rfl ?_
  obtain ⟨M1, hM1⟩ : ∃ zq, zq = zst M 4 i x := ⟨_, rfl⟩
  refine xw_iast C 4 0 zr_4 rfl i rfl (by omega) (by decide) (ws' := zW ca ad M1) (by rw [hM1]; exact zs_4 _ _) d_Tb_put_6 (pc' := 7) rfl ?_
  refine xw_aload_n C 0 d_Tb_put_7 rfl rfl (pc' := 8) rfl ?_
  refine xw_get C u_Tb 3 zr_3 rfl 1 (by decide) k_141 rfl rfl d_Tb_put_8 (pc' := 11) rfl ?_
  refine xw_iload_n C 1 d_Tb_put_11 rfl rfl (pc' := 12) rfl ?_
  refine xw_iload_n C 3 d_Tb_put_12 rfl rfl (pc' := 13) rfl ?_
  obtain ⟨M2, hM2⟩ : ∃ zq, zq = zst M1 5 i y := ⟨_, rfl⟩
  refine xw_iast C 5 0 zr_5 rfl i rfl (by omega) (by decide) (ws' := zW ca ad M2) (by rw [hM2]; exact zs_5 _ _) d_Tb_put_13 (pc' := 14) rfl ?_
  refine xw_aload_n C 0 d_Tb_put_14 rfl rfl (pc' := 15) rfl ?_
  refine xw_get C u_Tb 3 zr_3 rfl 2 (by decide) k_142 rfl rfl d_Tb_put_15 (pc' := 18) rfl ?_
  refine xw_iload_n C 1 d_Tb_put_18 rfl rfl (pc' := 19) rfl ?_
  refine xw_iload C 4 d_Tb_put_19 rfl (pc' := 21) rfl ?_
  obtain ⟨M3, hM3⟩ : ∃ zq, zq = zst M2 6 i z := ⟨_, rfl⟩
  refine xw_iast C 6 0 zr_6 rfl i rfl (by omega) (by decide) (ws' := zW ca ad M3) (by rw [hM3]; exact zs_6 _ _) d_Tb_put_21 (pc' := 22) rfl ?_
  refine xw_iload_n C 1 d_Tb_put_22 rfl rfl (pc' := 23) rfl ?_
  have hz3 : M3 3 0 = nI k := by rw [hM3, hM2, hM1, zst_ap, if_neg (fun h9 => absurd h9.1 (by decide)), zst_ap, if_neg (fun h9 => absurd h9.1 (by decide)), zst_ap, if_neg (fun h9 => absurd h9.1 (by decide))]; exact hz
  refine xw_aload_n C 0 d_Tb_put_23 rfl rfl (pc' := 24) rfl ?_
  refine xw_get C u_Tb 3 zr_3 rfl 3 (by decide) k_143 rfl rfl d_Tb_put_24 (pc' := 27) rfl ?_
  refine xw_topi (y := nI k) hz3 ?_
  refine xw_icmp_ne C (tgt := 40) d_Tb_put_27 (by decide) (pc' := 30) rfl (fun h27 => ?_) (fun h27 => ?_)
  ·
    replace h27 : ¬ (i = k) := fun hneg => h27 ((nI_eq (by omega) (by omega)).mpr hneg)
    refine xw_vret C hr hlk (F := zW ca ad) M3 rfl ?_ d_Tb_put_40
    rw [hM3, hM2, hM1]; exact (if_neg h27).symm
  ·
    replace h27 : i = k := (nI_eq (by omega) (by omega)).mp h27
    refine xw_aload_n C 0 d_Tb_put_30 rfl rfl (pc' := 31) rfl ?_
    refine xw_dup C d_Tb_put_31 rfl (pc' := 32) rfl ?_
    refine xw_get C u_Tb 3 zr_3 rfl 3 (by decide) k_143 rfl rfl d_Tb_put_32 (pc' := 35) rfl ?_
    refine xw_topi (y := nI k) hz3 ?_
    refine xw_iconst C (v := nI 1) d_Tb_put_35 (by decide) (pc' := 36) rfl ?_
    refine xw_iadd C d_Tb_put_36 (pc' := 37) rfl ?_
    refine xw_topi (y := nI (k + 1)) (nI_add _ _) ?_
    obtain ⟨M4, hM4⟩ : ∃ zq, zq = zst M3 3 0 (nI (k + 1)) := ⟨_, rfl⟩
    refine xw_put C u_Tb t_Tb t_Tb_ok n_Tb 3 zr_3 rfl 3 (by decide) k_143 rfl rfl (t_Tb_ok 3 (by decide)) rfl rfl (Nat.le_of_ble_eq_true rfl) (ws' := zW ca ad M4) (by rw [hM4]; exact zs_3_0 _) d_Tb_put_37 (pc' := 40) rfl ?_
    refine xw_vret C hr hlk (F := zW ca ad) M4 rfl ?_ d_Tb_put_40
    rw [hM4, hM3, hM2, hM1]; exact (if_pos h27).symm

set_option maxHeartbeats 4000000 in
set_option maxRecDepth 100000 in
/-- become -/
theorem c_Tb_become (l : Launch) (D : va_G) (ca : Nat → ClassId) (ad : Nat → Nat) (M : Nat → Nat → Int32) (g : Nat → Option Nat) (h : Nat) (hh : h ≤ 240) (hg0 : ∀ x, x < h → M 13 x = oI (g x) ∧ ∀ t, g x = some t → t < 6) : xw_Mi l y_Tb_become (.code y_Tb_become b_Tb_become 4 (some .boolean) :: zG) { frames := 1, cells := 0, slots := 0, locals := 24 } D zCl (zT ca) [.ref (ad 3), .ref (ad 13), .int (nI h)] (zW ca ad M) (fun _ => True) 0 0 (zW ca ad) (fun r M' => (∀ a b, a ≠ 3 → a ≠ 4 → a ≠ 5 → a ≠ 6 → M' a b = M a b) ∧ ((bs g h).length ≤ 60 ∧ r = nI 1 ∧ M' 3 0 = nI (bs g h).length ∧ bsR M' 4 5 6 (bs g h) ∨ ¬ (bs g h).length ≤ 60 ∧ r = nI 0 ∧ M' 3 0 = nI 0)) := by
  intro sz
  refine xw_met (cc := b_Tb_become) (maxL := 4) (ret := (some .boolean)) (by decide) rfl (Nat.le_of_ble_eq_true rfl) (fun p e s m args below meth c hr hlk hnm hsz hKs C => ?_)
  have loop1 : ∀ (d : Nat) (x : Nat) (M1 : Nat → Nat → Int32), h - x = d → x ≤ h → (∀ a b, a ≠ 3 → a ≠ 4 → a ≠ 5 → a ≠ 6 → M1 a b = M a b) → M1 3 0 = nI (bs g x).length → (bs g x).length ≤ 60 → bsR M1 4 5 6 (bs g x) → XW p l e { frames := 1, cells := 0, slots := 0, locals := 24 } s m args below meth c D zCl (va_A (zW ca ad M) sz) s.heap 4 (zW ca ad M1) 0 0 (MQ below (va_Qi (fun r M' => (∀ a b, a ≠ 3 → a ≠ 4 → a ≠ 5 → a ≠ 6 → M' a b = M a b) ∧ ((bs g h).length ≤ 60 ∧ r = nI 1 ∧ M' 3 0 = nI (bs g h).length ∧ bsR M' 4 5 6 (bs g h) ∨ ¬ (bs g h).length ≤ 60 ∧ r = nI 0 ∧ M' 3 0 = nI 0)) (xw_B D zCl (zT ca) (va_A (zW ca ad M) sz) (zW ca ad)) (va_A (zW ca ad M) sz)) args s 0 0 (va_A (zW ca ad M) sz)) 7 [(0, .ref (ad 3)), (1, .ref (ad 13)), (2, .int (nI h)), (3, .int (nI x))] [] := by
    intro d
    induction d using Nat.strongRecOn with
    | _ d ih =>
      intro x M1 hd hi hf1 hz1 hl1 hR1
      refine xw_iload_n C 3 d_Tb_become_7 rfl rfl (pc' := 8) rfl ?_
      refine xw_iload_n C 2 d_Tb_become_8 rfl rfl (pc' := 9) rfl ?_
      refine xw_icmp_ge C (tgt := 100) d_Tb_become_9 (by decide) (pc' := 12) rfl (fun h9 => ?_) (fun h9 => ?_)
      ·
        replace h9 : h ≤ x := (nI_leI (by omega) (by omega)).mp h9
        refine xw_iconst C (v := nI 1) d_Tb_become_100 (by decide) (pc' := 101) rfl ?_
        refine xw_zret C hr hlk xp_n1 (F := zW ca ad) M1 rfl ?_ d_Tb_become_101
        rw [show x = h by omega] at hz1 hl1 hR1
        exact ⟨hf1, Or.inl ⟨hl1, rfl, hz1, hR1⟩⟩
      ·
        replace h9 : ¬ (h ≤ x) := fun hneg => h9 ((nI_leI (by omega) (by omega)).mpr hneg)
        have hgx := hg0 x (by omega)
        rcases hg : g x with _ | t
        ·
          have hox : M1 13 x = -1 := by rw [hf1 _ _ (by decide) (by decide) (by decide) (by decide), hgx.1, hg]; rfl
          refine xw_aload_n C 1 d_Tb_become_12 rfl rfl (pc' := 13) rfl ?_
          refine xw_iload_n C 3 d_Tb_become_13 rfl rfl (pc' := 14) rfl ?_
          refine xw_iald C 13 0 zr_13 rfl x rfl (by omega) (by decide) d_Tb_become_14 (pc' := 15) rfl ?_
          refine xw_topi (y := (-1)) hox ?_
          refine xw_iconst C (v := (-1)) d_Tb_become_15 (by decide) (pc' := 16) rfl ?_
          refine xw_icmp_ne C (tgt := 22) d_Tb_become_16 (by decide) (pc' := 19) rfl (fun h16 => ?_) (fun h16 => ?_)
          ·
            exact absurd rfl h16
          ·
            refine xw_goto C (tgt := 94) d_Tb_become_19 (by decide) ?_
            refine xw_iinc C 3 (v := nI (x + 1)) d_Tb_become_94 rfl (xp_inc1 _) (by decide) rfl (pc' := 97) rfl ?_
            refine xw_goto C (tgt := 7) d_Tb_become_97 (by decide) ?_
            refine xw_lv [1, 2, 3, 0] rfl ?_
            exact ih (h - (x + 1)) (by omega) (x + 1) M1 rfl (by omega) hf1 (by rw [bs_none hg]; exact hz1) (by rw [bs_none hg]; exact hl1) (by rw [bs_none hg]; exact hR1)
        ·
          have hox : M1 13 x = nI t := by rw [hf1 _ _ (by decide) (by decide) (by decide) (by decide), hgx.1, hg]; rfl
          have ht6 := hgx.2 t hg
          refine xw_aload_n C 1 d_Tb_become_12 rfl rfl (pc' := 13) rfl ?_
          refine xw_iload_n C 3 d_Tb_become_13 rfl rfl (pc' := 14) rfl ?_
          refine xw_iald C 13 0 zr_13 rfl x rfl (by omega) (by decide) d_Tb_become_14 (pc' := 15) rfl ?_
          refine xw_topi (y := nI t) hox ?_
          refine xw_iconst C (v := (-1)) d_Tb_become_15 (by decide) (pc' := 16) rfl ?_
          refine xw_icmp_ne C (tgt := 22) d_Tb_become_16 (by decide) (pc' := 19) rfl (fun h16 => ?_) (fun h16 => ?_)
          ·
            refine xw_aload_n C 0 d_Tb_become_22 rfl rfl (pc' := 23) rfl ?_
            refine xw_get C u_Tb 3 zr_3 rfl 3 (by decide) k_143 rfl rfl d_Tb_become_23 (pc' := 26) rfl ?_
            refine xw_topi (y := nI ((bs g x).length)) hz1 ?_
            refine xw_if_le C (tgt := 62) d_Tb_become_26 (by decide) (pc' := 29) rfl (fun h26 => ?_) (fun h26 => ?_)
            ·
              replace h26 : ((bs g x).length) ≤ 0 := (xp_le0 (by omega)).mp h26
              have hwhy : ¬ (0 < x ∧ g (x - 1) = some t) := fun h9 => bs_ne (x := x - 1) h9.2 (by rw [show x - 1 + 1 = x by omega]; exact List.length_eq_zero_iff.mp (by omega))
              refine xw_aload_n C 0 d_Tb_become_62 rfl rfl (pc' := 63) rfl ?_
              refine xw_get C u_Tb 3 zr_3 rfl 3 (by decide) k_143 rfl rfl d_Tb_become_63 (pc' := 66) rfl ?_
              refine xw_topi (y := nI ((bs g x).length)) hz1 ?_
              refine xw_bipush C (v := nI 60) d_Tb_become_66 (by decide) (pc' := 68) rfl ?_
              refine xw_icmp_ge C (tgt := 87) d_Tb_become_68 (by decide) (pc' := 71) rfl (fun h68 => ?_) (fun h68 => ?_)
              ·
                replace h68 : 60 ≤ ((bs g x).length) := (nI_leI (by omega) (by omega)).mp h68
                refine xw_aload_n C 0 d_Tb_become_87 rfl rfl (pc' := 88) rfl ?_
                refine xw_iconst C (v := nI 0) d_Tb_become_88 (by decide) (pc' := 89) rfl ?_
                obtain ⟨M51, hM51⟩ : ∃ zq, zq = zst M1 3 0 (nI 0) := ⟨_, rfl⟩
                refine xw_put C u_Tb t_Tb t_Tb_ok n_Tb 3 zr_3 rfl 3 (by decide) k_143 rfl rfl (t_Tb_ok 3 (by decide)) rfl rfl (Nat.le_of_ble_eq_true rfl) (ws' := zW ca ad M51) (by rw [hM51]; exact zs_3_0 _) d_Tb_become_89 (pc' := 92) rfl ?_
                refine xw_iconst C (v := nI 0) d_Tb_become_92 (by decide) (pc' := 93) rfl ?_
                refine xw_zret C hr hlk xp_n0 (F := zW ca ad) M51 rfl ?_ d_Tb_become_93
                refine ⟨fun a b h1 h2 h3 h4 => by rw [hM51, zst_ap, if_neg (fun h9 => h1 h9.1)]; exact hf1 a b h1 h2 h3 h4, Or.inr ⟨fun h9 => ?_, rfl, by rw [hM51, zst_ap, if_pos ⟨rfl, rfl⟩]⟩⟩
                have q1 := bs_mono (g := g) (show x + 1 ≤ h by omega)
                rw [bs_new hg hwhy] at q1
                have q2 : (bs g x).length + 1 ≤ (bs g h).length := q1
                omega
              ·
                replace h68 : ¬ (60 ≤ ((bs g x).length)) := fun hneg => h68 ((nI_leI (by omega) (by omega)).mpr hneg)
                refine xw_aload_n C 0 d_Tb_become_71 rfl rfl (pc' := 72) rfl ?_
                refine xw_aload_n C 0 d_Tb_become_72 rfl rfl (pc' := 73) rfl ?_
                refine xw_get C u_Tb 3 zr_3 rfl 3 (by decide) k_143 rfl rfl d_Tb_become_73 (pc' := 76) rfl ?_
                refine xw_topi (y := nI ((bs g x).length)) hz1 ?_
                refine xw_iload_n C 3 d_Tb_become_76 rfl rfl (pc' := 77) rfl ?_
                refine xw_iconst C (v := nI 1) d_Tb_become_77 (by decide) (pc' := 78) rfl ?_
                refine xw_aload_n C 1 d_Tb_become_78 rfl rfl (pc' := 79) rfl ?_
                refine xw_iload_n C 3 d_Tb_become_79 rfl rfl (pc' := 80) rfl ?_
                refine xw_iald C 13 0 zr_13 rfl x rfl (by omega) (by decide) d_Tb_become_80 (pc' := 81) rfl ?_
                refine xw_topi (y := nI t) hox ?_
                refine xw_callVv C (c_Tb_put l D ca ad M1 ((bs g x).length) ((bs g x).length) (nI x) (nI 1) (nI t) (by omega) (by omega) hz1) ⟨zg_B C 4 k_423 k_28 k_426 q_Tb_put ⟨by decide, by decide⟩, C.2.2.2.2.1 _ k_424, C.2.2.2.2.1 _ k_425⟩ 3 zr_3 rfl rfl (fun _ _ _ _ h => h) (fun _ _ _ _ _ _ _ => trivial) rfl rfl (Nat.le_of_ble_eq_true rfl) d_Tb_become_81 ⟨by decide, by decide⟩ (pc' := 84) rfl (fun M53 hp54 => ?_)
                have hM53 := hp54
                refine xw_goto C (tgt := 94) d_Tb_become_84 (by decide) ?_
                refine xw_iinc C 3 (v := nI (x + 1)) d_Tb_become_94 rfl (xp_inc1 _) (by decide) rfl (pc' := 97) rfl ?_
                refine xw_goto C (tgt := 7) d_Tb_become_97 (by decide) ?_
                refine xw_lv [1, 2, 3, 0] rfl ?_
                have hnew := hwhy
                rw [zPut, if_pos rfl] at hM53
                refine ih (h - (x + 1)) (by omega) (x + 1) M53 rfl (by omega) (fun a b h1 h2 h3 h4 => by rw [hM53, zst_ap, if_neg (fun h9 => h1 h9.1), zst_ap, if_neg (fun h9 => h4 h9.1), zst_ap, if_neg (fun h9 => h3 h9.1), zst_ap, if_neg (fun h9 => h2 h9.1)]; exact hf1 a b h1 h2 h3 h4) ?_ ?_ ?_
                · rw [hM53, zst_ap, if_pos ⟨rfl, rfl⟩, bs_new hg hnew]; rfl
                · rw [bs_new hg hnew]; show (bs g x).length + 1 ≤ 60; omega
                · rw [bs_new hg hnew]
                  refine ⟨?_, ?_, ?_, hR1.keep (fun j hj => ?_)⟩
                  · rw [hM53, zst_ap, if_neg (fun h9 => absurd h9.1 (by decide)), zst_ap, if_neg (fun h9 => absurd h9.1 (by decide)), zst_ap, if_neg (fun h9 => absurd h9.1 (by decide)), zst_ap, if_pos ⟨rfl, rfl⟩]
                  · rw [hM53, zst_ap, if_neg (fun h9 => absurd h9.1 (by decide)), zst_ap, if_neg (fun h9 => absurd h9.1 (by decide)), zst_ap, if_pos ⟨rfl, rfl⟩]
                  · rw [hM53, zst_ap, if_neg (fun h9 => absurd h9.1 (by decide)), zst_ap, if_pos ⟨rfl, rfl⟩]
                  · refine ⟨?_, ?_, ?_⟩ <;> rw [hM53, zst_ap, if_neg (by omega), zst_ap, if_neg (by omega), zst_ap, if_neg (by omega), zst_ap, if_neg (by omega)]
            ·
              replace h26 : ¬ (((bs g x).length) ≤ 0) := fun hneg => h26 ((xp_le0 (by omega)).mpr hneg)
              refine xw_iload_n C 3 d_Tb_become_29 rfl rfl (pc' := 30) rfl ?_
              refine xw_if_le C (tgt := 62) d_Tb_become_30 (by decide) (pc' := 33) rfl (fun h30 => ?_) (fun h30 => ?_)
              ·
                replace h30 : x ≤ 0 := (xp_le0 (by omega)).mp h30
                have hwhy : ¬ (0 < x ∧ g (x - 1) = some t) := fun h9 => by omega
                refine xw_aload_n C 0 d_Tb_become_62 rfl rfl (pc' := 63) rfl ?_
                refine xw_get C u_Tb 3 zr_3 rfl 3 (by decide) k_143 rfl rfl d_Tb_become_63 (pc' := 66) rfl ?_
                refine xw_topi (y := nI ((bs g x).length)) hz1 ?_
                refine xw_bipush C (v := nI 60) d_Tb_become_66 (by decide) (pc' := 68) rfl ?_
                refine xw_icmp_ge C (tgt := 87) d_Tb_become_68 (by decide) (pc' := 71) rfl (fun h68 => ?_) (fun h68 => ?_)
                ·
                  replace h68 : 60 ≤ ((bs g x).length) := (nI_leI (by omega) (by omega)).mp h68
                  refine xw_aload_n C 0 d_Tb_become_87 rfl rfl (pc' := 88) rfl ?_
                  refine xw_iconst C (v := nI 0) d_Tb_become_88 (by decide) (pc' := 89) rfl ?_
                  obtain ⟨M55, hM55⟩ : ∃ zq, zq = zst M1 3 0 (nI 0) := ⟨_, rfl⟩
                  refine xw_put C u_Tb t_Tb t_Tb_ok n_Tb 3 zr_3 rfl 3 (by decide) k_143 rfl rfl (t_Tb_ok 3 (by decide)) rfl rfl (Nat.le_of_ble_eq_true rfl) (ws' := zW ca ad M55) (by rw [hM55]; exact zs_3_0 _) d_Tb_become_89 (pc' := 92) rfl ?_
                  refine xw_iconst C (v := nI 0) d_Tb_become_92 (by decide) (pc' := 93) rfl ?_
                  refine xw_zret C hr hlk xp_n0 (F := zW ca ad) M55 rfl ?_ d_Tb_become_93
                  refine ⟨fun a b h1 h2 h3 h4 => by rw [hM55, zst_ap, if_neg (fun h9 => h1 h9.1)]; exact hf1 a b h1 h2 h3 h4, Or.inr ⟨fun h9 => ?_, rfl, by rw [hM55, zst_ap, if_pos ⟨rfl, rfl⟩]⟩⟩
                  have q1 := bs_mono (g := g) (show x + 1 ≤ h by omega)
                  rw [bs_new hg hwhy] at q1
                  have q2 : (bs g x).length + 1 ≤ (bs g h).length := q1
                  omega
                ·
                  replace h68 : ¬ (60 ≤ ((bs g x).length)) := fun hneg => h68 ((nI_leI (by omega) (by omega)).mpr hneg)
                  refine xw_aload_n C 0 d_Tb_become_71 rfl rfl (pc' := 72) rfl ?_
                  refine xw_aload_n C 0 d_Tb_become_72 rfl rfl (pc' := 73) rfl ?_
                  refine xw_get C u_Tb 3 zr_3 rfl 3 (by decide) k_143 rfl rfl d_Tb_become_73 (pc' := 76) rfl ?_
                  refine xw_topi (y := nI ((bs g x).length)) hz1 ?_
                  refine xw_iload_n C 3 d_Tb_become_76 rfl rfl (pc' := 77) rfl ?_
                  refine xw_iconst C (v := nI 1) d_Tb_become_77 (by decide) (pc' := 78) rfl ?_
                  refine xw_aload_n C 1 d_Tb_become_78 rfl rfl (pc' := 79) rfl ?_
                  refine xw_iload_n C 3 d_Tb_become_79 rfl rfl (pc' := 80) rfl ?_
                  refine xw_iald C 13 0 zr_13 rfl x rfl (by omega) (by decide) d_Tb_become_80 (pc' := 81) rfl ?_
                  refine xw_topi (y := nI t) hox ?_
                  refine xw_callVv C (c_Tb_put l D ca ad M1 ((bs g x).length) ((bs g x).length) (nI x) (nI 1) (nI t) (by omega) (by omega) hz1) ⟨zg_B C 4 k_423 k_28 k_426 q_Tb_put ⟨by decide, by decide⟩, C.2.2.2.2.1 _ k_424, C.2.2.2.2.1 _ k_425⟩ 3 zr_3 rfl rfl (fun _ _ _ _ h => h) (fun _ _ _ _ _ _ _ => trivial) rfl rfl (Nat.le_of_ble_eq_true rfl) d_Tb_become_81 ⟨by decide, by decide⟩ (pc' := 84) rfl (fun M57 hp58 => ?_)
                  have hM57 := hp58
                  refine xw_goto C (tgt := 94) d_Tb_become_84 (by decide) ?_
                  refine xw_iinc C 3 (v := nI (x + 1)) d_Tb_become_94 rfl (xp_inc1 _) (by decide) rfl (pc' := 97) rfl ?_
                  refine xw_goto C (tgt := 7) d_Tb_become_97 (by decide) ?_
                  refine xw_lv [1, 2, 3, 0] rfl ?_
                  have hnew := hwhy
                  rw [zPut, if_pos rfl] at hM57
                  refine ih (h - (x + 1)) (by omega) (x + 1) M57 rfl (by omega) (fun a b h1 h2 h3 h4 => by rw [hM57, zst_ap, if_neg (fun h9 => h1 h9.1), zst_ap, if_neg (fun h9 => h4 h9.1), zst_ap, if_neg (fun h9 => h3 h9.1), zst_ap, if_neg (fun h9 => h2 h9.1)]; exact hf1 a b h1 h2 h3 h4) ?_ ?_ ?_
                  · rw [hM57, zst_ap, if_pos ⟨rfl, rfl⟩, bs_new hg hnew]; rfl
                  · rw [bs_new hg hnew]; show (bs g x).length + 1 ≤ 60; omega
                  · rw [bs_new hg hnew]
                    refine ⟨?_, ?_, ?_, hR1.keep (fun j hj => ?_)⟩
                    · rw [hM57, zst_ap, if_neg (fun h9 => absurd h9.1 (by decide)), zst_ap, if_neg (fun h9 => absurd h9.1 (by decide)), zst_ap, if_neg (fun h9 => absurd h9.1 (by decide)), zst_ap, if_pos ⟨rfl, rfl⟩]
                    · rw [hM57, zst_ap, if_neg (fun h9 => absurd h9.1 (by decide)), zst_ap, if_neg (fun h9 => absurd h9.1 (by decide)), zst_ap, if_pos ⟨rfl, rfl⟩]
                    · rw [hM57, zst_ap, if_neg (fun h9 => absurd h9.1 (by decide)), zst_ap, if_pos ⟨rfl, rfl⟩]
                    · refine ⟨?_, ?_, ?_⟩ <;> rw [hM57, zst_ap, if_neg (by omega), zst_ap, if_neg (by omega), zst_ap, if_neg (by omega), zst_ap, if_neg (by omega)]
              ·
                replace h30 : ¬ (x ≤ 0) := fun hneg => h30 ((xp_le0 (by omega)).mpr hneg)
                refine xw_aload_n C 1 d_Tb_become_33 rfl rfl (pc' := 34) rfl ?_
                refine xw_iload_n C 3 d_Tb_become_34 rfl rfl (pc' := 35) rfl ?_
                refine xw_iald C 13 0 zr_13 rfl x rfl (by omega) (by decide) d_Tb_become_35 (pc' := 36) rfl ?_
                refine xw_topi (y := nI t) hox ?_
                refine xw_aload_n C 1 d_Tb_become_36 rfl rfl (pc' := 37) rfl ?_
                refine xw_iload_n C 3 d_Tb_become_37 rfl rfl (pc' := 38) rfl ?_
                refine xw_iconst C (v := nI 1) d_Tb_become_38 (by decide) (pc' := 39) rfl ?_
                refine xw_isub C d_Tb_become_39 (pc' := 40) rfl ?_
                refine xw_topi (y := nI (x - 1)) (pk_sub (by omega)) ?_
                have hgp := hg0 (x - 1) (by omega)
                have hop : M1 13 (x - 1) = oI (g (x - 1)) := by rw [hf1 _ _ (by decide) (by decide) (by decide) (by decide)]; exact hgp.1
                refine xw_iald C 13 0 zr_13 rfl (x - 1) rfl (by omega) (by decide) d_Tb_become_40 (pc' := 41) rfl ?_
                refine xw_topi (y := oI (g (x - 1))) hop ?_
                refine xw_icmp_ne C (tgt := 62) d_Tb_become_41 (by decide) (pc' := 44) rfl (fun h41 => ?_) (fun h41 => ?_)
                ·
                  have hwhy : ¬ (0 < x ∧ g (x - 1) = some t) := fun h9 => h41 (by rw [h9.2]; rfl)
                  refine xw_aload_n C 0 d_Tb_become_62 rfl rfl (pc' := 63) rfl ?_
                  refine xw_get C u_Tb 3 zr_3 rfl 3 (by decide) k_143 rfl rfl d_Tb_become_63 (pc' := 66) rfl ?_
                  refine xw_topi (y := nI ((bs g x).length)) hz1 ?_
                  refine xw_bipush C (v := nI 60) d_Tb_become_66 (by decide) (pc' := 68) rfl ?_
                  refine xw_icmp_ge C (tgt := 87) d_Tb_become_68 (by decide) (pc' := 71) rfl (fun h68 => ?_) (fun h68 => ?_)
                  ·
                    replace h68 : 60 ≤ ((bs g x).length) := (nI_leI (by omega) (by omega)).mp h68
                    refine xw_aload_n C 0 d_Tb_become_87 rfl rfl (pc' := 88) rfl ?_
                    refine xw_iconst C (v := nI 0) d_Tb_become_88 (by decide) (pc' := 89) rfl ?_
                    obtain ⟨M59, hM59⟩ : ∃ zq, zq = zst M1 3 0 (nI 0) := ⟨_, rfl⟩
                    refine xw_put C u_Tb t_Tb t_Tb_ok n_Tb 3 zr_3 rfl 3 (by decide) k_143 rfl rfl (t_Tb_ok 3 (by decide)) rfl rfl (Nat.le_of_ble_eq_true rfl) (ws' := zW ca ad M59) (by rw [hM59]; exact zs_3_0 _) d_Tb_become_89 (pc' := 92) rfl ?_
                    refine xw_iconst C (v := nI 0) d_Tb_become_92 (by decide) (pc' := 93) rfl ?_
                    refine xw_zret C hr hlk xp_n0 (F := zW ca ad) M59 rfl ?_ d_Tb_become_93
                    refine ⟨fun a b h1 h2 h3 h4 => by rw [hM59, zst_ap, if_neg (fun h9 => h1 h9.1)]; exact hf1 a b h1 h2 h3 h4, Or.inr ⟨fun h9 => ?_, rfl, by rw [hM59, zst_ap, if_pos ⟨rfl, rfl⟩]⟩⟩
                    have q1 := bs_mono (g := g) (show x + 1 ≤ h by omega)
                    rw [bs_new hg hwhy] at q1
                    have q2 : (bs g x).length + 1 ≤ (bs g h).length := q1
                    omega
                  ·
                    replace h68 : ¬ (60 ≤ ((bs g x).length)) := fun hneg => h68 ((nI_leI (by omega) (by omega)).mpr hneg)
                    refine xw_aload_n C 0 d_Tb_become_71 rfl rfl (pc' := 72) rfl ?_
                    refine xw_aload_n C 0 d_Tb_become_72 rfl rfl (pc' := 73) rfl ?_
                    refine xw_get C u_Tb 3 zr_3 rfl 3 (by decide) k_143 rfl rfl d_Tb_become_73 (pc' := 76) rfl ?_
                    refine xw_topi (y := nI ((bs g x).length)) hz1 ?_
                    refine xw_iload_n C 3 d_Tb_become_76 rfl rfl (pc' := 77) rfl ?_
                    refine xw_iconst C (v := nI 1) d_Tb_become_77 (by decide) (pc' := 78) rfl ?_
                    refine xw_aload_n C 1 d_Tb_become_78 rfl rfl (pc' := 79) rfl ?_
                    refine xw_iload_n C 3 d_Tb_become_79 rfl rfl (pc' := 80) rfl ?_
                    refine xw_iald C 13 0 zr_13 rfl x rfl (by omega) (by decide) d_Tb_become_80 (pc' := 81) rfl ?_
                    refine xw_topi (y := nI t) hox ?_
                    refine xw_callVv C (c_Tb_put l D ca ad M1 ((bs g x).length) ((bs g x).length) (nI x) (nI 1) (nI t) (by omega) (by omega) hz1) ⟨zg_B C 4 k_423 k_28 k_426 q_Tb_put ⟨by decide, by decide⟩, C.2.2.2.2.1 _ k_424, C.2.2.2.2.1 _ k_425⟩ 3 zr_3 rfl rfl (fun _ _ _ _ h => h) (fun _ _ _ _ _ _ _ => trivial) rfl rfl (Nat.le_of_ble_eq_true rfl) d_Tb_become_81 ⟨by decide, by decide⟩ (pc' := 84) rfl (fun M61 hp62 => ?_)
                    have hM61 := hp62
                    refine xw_goto C (tgt := 94) d_Tb_become_84 (by decide) ?_
                    refine xw_iinc C 3 (v := nI (x + 1)) d_Tb_become_94 rfl (xp_inc1 _) (by decide) rfl (pc' := 97) rfl ?_
                    refine xw_goto C (tgt := 7) d_Tb_become_97 (by decide) ?_
                    refine xw_lv [1, 2, 3, 0] rfl ?_
                    have hnew := hwhy
                    rw [zPut, if_pos rfl] at hM61
                    refine ih (h - (x + 1)) (by omega) (x + 1) M61 rfl (by omega) (fun a b h1 h2 h3 h4 => by rw [hM61, zst_ap, if_neg (fun h9 => h1 h9.1), zst_ap, if_neg (fun h9 => h4 h9.1), zst_ap, if_neg (fun h9 => h3 h9.1), zst_ap, if_neg (fun h9 => h2 h9.1)]; exact hf1 a b h1 h2 h3 h4) ?_ ?_ ?_
                    · rw [hM61, zst_ap, if_pos ⟨rfl, rfl⟩, bs_new hg hnew]; rfl
                    · rw [bs_new hg hnew]; show (bs g x).length + 1 ≤ 60; omega
                    · rw [bs_new hg hnew]
                      refine ⟨?_, ?_, ?_, hR1.keep (fun j hj => ?_)⟩
                      · rw [hM61, zst_ap, if_neg (fun h9 => absurd h9.1 (by decide)), zst_ap, if_neg (fun h9 => absurd h9.1 (by decide)), zst_ap, if_neg (fun h9 => absurd h9.1 (by decide)), zst_ap, if_pos ⟨rfl, rfl⟩]
                      · rw [hM61, zst_ap, if_neg (fun h9 => absurd h9.1 (by decide)), zst_ap, if_neg (fun h9 => absurd h9.1 (by decide)), zst_ap, if_pos ⟨rfl, rfl⟩]
                      · rw [hM61, zst_ap, if_neg (fun h9 => absurd h9.1 (by decide)), zst_ap, if_pos ⟨rfl, rfl⟩]
                      · refine ⟨?_, ?_, ?_⟩ <;> rw [hM61, zst_ap, if_neg (by omega), zst_ap, if_neg (by omega), zst_ap, if_neg (by omega), zst_ap, if_neg (by omega)]
                ·
                  have hg1 : g (x - 1) = some t := (oI_inj (a := some t) (b := g (x - 1)) (fun t9 h9 => by cases h9; omega) (fun t9 h9 => by have := hgp.2 t9 h9; omega) h41).symm
                  obtain ⟨qq, rr, hL⟩ : ∃ q r, bs g x = q :: r := by
                    rcases hL : bs g x with _ | ⟨q, r⟩
                    · rw [hL] at h26; exact absurd h26 (by show ¬ ¬ (0 ≤ 0); omega)
                    · exact ⟨q, r, rfl⟩
                  refine xw_aload_n C 0 d_Tb_become_44 rfl rfl (pc' := 45) rfl ?_
                  refine xw_get C u_Tb 3 zr_3 rfl 1 (by decide) k_141 rfl rfl d_Tb_become_45 (pc' := 48) rfl ?_
                  refine xw_aload_n C 0 d_Tb_become_48 rfl rfl (pc' := 49) rfl ?_
                  refine xw_get C u_Tb 3 zr_3 rfl 3 (by decide) k_143 rfl rfl d_Tb_become_49 (pc' := 52) rfl ?_
                  refine xw_topi (y := nI ((bs g x).length)) hz1 ?_
                  refine xw_iconst C (v := nI 1) d_Tb_become_52 (by decide) (pc' := 53) rfl ?_
                  refine xw_isub C d_Tb_become_53 (pc' := 54) rfl ?_
                  refine xw_topi (y := nI (((bs g x).length) - 1)) (pk_sub (by omega)) ?_
                  refine xw_dup2_11 C d_Tb_become_54 rfl rfl (pc' := 55) rfl ?_
                  refine xw_iald C 5 0 zr_5 rfl (((bs g x).length) - 1) rfl (by omega) (by decide) d_Tb_become_55 (pc' := 56) rfl ?_
                  refine xw_iconst C (v := nI 1) d_Tb_become_56 (by decide) (pc' := 57) rfl ?_
                  refine xw_iadd C d_Tb_become_57 (pc' := 58) rfl ?_
                  obtain ⟨M63, hM63⟩ : ∃ zq, zq = zst M1 5 (((bs g x).length) - 1) ((M1 5 (((bs g x).length) - 1)) + (nI 1)) := ⟨_, rfl⟩
                  refine xw_iast C 5 0 zr_5 rfl (((bs g x).length) - 1) rfl (by omega) (by decide) (ws' := zW ca ad M63) (by rw [hM63]; exact zs_5 _ _) d_Tb_become_58 (pc' := 59) rfl ?_
                  refine xw_goto C (tgt := 94) d_Tb_become_59 (by decide) ?_
                  refine xw_iinc C 3 (v := nI (x + 1)) d_Tb_become_94 rfl (xp_inc1 _) (by decide) rfl (pc' := 97) rfl ?_
                  refine xw_goto C (tgt := 7) d_Tb_become_97 (by decide) ?_
                  refine xw_lv [1, 2, 3, 0] rfl ?_
                  refine ih (h - (x + 1)) (by omega) (x + 1) M63 rfl (by omega) (fun a b h1 h2 h3 h4 => by rw [hM63, zst_ap, if_neg (fun h9 => h3 h9.1)]; exact hf1 a b h1 h2 h3 h4) ?_ ?_ ?_
                  · rw [hM63, zst_ap, if_neg (fun h9 => absurd h9.1 (by decide)), bs_ext hg (by omega) hg1 hL]; exact hz1.trans (by rw [hL]; rfl)
                  · rw [bs_ext hg (by omega) hg1 hL]; rw [hL] at hl1; exact hl1
                  · rw [bs_ext hg (by omega) hg1 hL]
                    rw [hL] at hR1
                    obtain ⟨a1, a2, a3, a4⟩ := hR1
                    have hlr : (bs g x).length - 1 = rr.length := by rw [hL]; rfl
                    rw [hlr] at hM63
                    refine ⟨?_, ?_, ?_, a4.keep (fun j hj => ?_)⟩
                    · rw [hM63, zst_ap, if_neg (fun h9 => absurd h9.1 (by decide))]; exact a1
                    · rw [hM63, zst_ap, if_pos ⟨rfl, rfl⟩, a2]; exact nI_add _ _
                    · rw [hM63, zst_ap, if_neg (fun h9 => absurd h9.1 (by decide))]; exact a3
                    · refine ⟨?_, ?_, ?_⟩
                      · rw [hM63, zst_ap, if_neg (fun h9 => absurd h9.1 (by decide))]
                      · rw [hM63, zst_ap, if_neg (fun h9 : 5 = 5 ∧ j = rr.length => absurd h9.2 (by omega))]
                      · rw [hM63, zst_ap, if_neg (fun h9 => absurd h9.1 (by decide))]
          ·
            exact absurd h16 (xp_nem1 (by omega))
  refine xw_lvE (lv' := [(0, .ref (ad 3)), (1, .ref (ad 13)), (2, .int (nI h))]) rfl ?_
  refine xw_aload_n C 0 d_Tb_become_0 rfl rfl (pc' := 1) rfl ?_
  refine xw_iconst C (v := nI 0) d_Tb_become_1 (by decide) (pc' := 2) rfl ?_
  obtain ⟨M1, hM1⟩ : ∃ zq, zq = zst M 3 0 (nI 0) := ⟨_, rfl⟩
  refine xw_put C u_Tb t_Tb t_Tb_ok n_Tb 3 zr_3 rfl 3 (by decide) k_143 rfl rfl (t_Tb_ok 3 (by decide)) rfl rfl (Nat.le_of_ble_eq_true rfl) (ws' := zW ca ad M1) (by rw [hM1]; exact zs_3_0 _) d_Tb_become_2 (pc' := 5) rfl ?_
  refine xw_iconst C (v := nI 0) d_Tb_become_5 (by decide) (pc' := 6) rfl ?_
  refine xw_istore_n C d_Tb_become_6 rfl (by decide) rfl (pc' := 7) rfl ?_
  refine xw_lv [1, 2, 3, 0] rfl ?_
  exact loop1 h 0 M1 rfl (by omega) (fun a b h1 h2 h3 h4 => by rw [hM1, zst_ap, if_neg (fun h9 => h1 h9.1)]) (by rw [hM1, zst_ap, if_pos ⟨rfl, rfl⟩]; rfl) (by show (0 : Nat) ≤ 60; omega) trivial
