/-- a tick's owner as a number -/
def oI (k : Option Nat) : Int32 := match k with
  | none => -1
  | some t => nI t
theorem oI_inj {a b : Option Nat} (ha : ∀ t, a = some t → t < 2 ^ 31) (hb : ∀ t, b = some t → t < 2 ^ 31) (h : oI a = oI b) : a = b := by
  rcases a with _ | a <;> rcases b with _ | b
  · rfl
  · exact absurd h.symm (xp_nem1 (hb b rfl))
  · exact absurd h (xp_nem1 (ha a rfl))
  · have := (nI_eq (ha a rfl) (hb b rfl)).mp h
    rw [this]
/-- the most urgent of the first i tasks: w is what they want, e when their windows end -/
def pl_pk (w e : Nat → Nat) : Nat → Option Nat
  | 0 => none
  | i + 1 => match pl_pk w e i with
    | none => if 0 < w i then some i else none
    | some b => if 0 < w i ∧ e i < e b then some i else some b
theorem pl_pk_lt {w e : Nat → Nat} {i b : Nat} (h : pl_pk w e i = some b) : b < i ∧ 0 < w b := by
  induction i with
  | zero => cases h
  | succ i ih =>
    unfold pl_pk at h
    rcases hq : pl_pk w e i with _ | c
    · rw [hq] at h
      dsimp only at h
      by_cases c : 0 < w i
      · rw [if_pos c] at h; cases h; exact ⟨by omega, c⟩
      · rw [if_neg c] at h; cases h
    · rw [hq] at h
      dsimp only at h
      by_cases d : 0 < w i ∧ e i < e c
      · rw [if_pos d] at h; cases h; exact ⟨by omega, d.1⟩
      · rw [if_neg d] at h; cases h
        have := ih hq
        exact ⟨by omega, this.2⟩
theorem pl_pk_n1 {w e : Nat → Nat} {i : Nat} (h : pl_pk w e i = none) (c : 0 < w i) : pl_pk w e (i + 1) = some i := by
  unfold pl_pk; rw [h]; dsimp only; rw [if_pos c]
theorem pl_pk_n0 {w e : Nat → Nat} {i : Nat} (h : pl_pk w e i = none) (c : ¬ 0 < w i) : pl_pk w e (i + 1) = none := by
  unfold pl_pk; rw [h]; dsimp only; rw [if_neg c]
theorem pl_pk_s1 {w e : Nat → Nat} {i b : Nat} (h : pl_pk w e i = some b) (c : 0 < w i ∧ e i < e b) : pl_pk w e (i + 1) = some i := by
  unfold pl_pk; rw [h]; dsimp only; rw [if_pos c]
theorem pl_pk_s0 {w e : Nat → Nat} {i b : Nat} (h : pl_pk w e i = some b) (c : ¬ (0 < w i ∧ e i < e b)) : pl_pk w e (i + 1) = some b := by
  unfold pl_pk; rw [h]; dsimp only; rw [if_neg c]
/-- the choice looks at the ends of those that want alone -/
theorem pl_pk_eq {w e w' e' : Nat → Nat} {n : Nat} (hw : ∀ t, t < n → w t = w' t) (he : ∀ t, t < n → 0 < w t → e t = e' t) : pl_pk w e n = pl_pk w' e' n := by
  induction n with
  | zero => rfl
  | succ i ih =>
    have q := ih (fun t ht => hw t (by omega)) (fun t ht => he t (by omega))
    have hi := hw i (by omega)
    rcases hq : pl_pk w e i with _ | b
    · by_cases c : 0 < w i
      · rw [pl_pk_n1 hq c, pl_pk_n1 (q ▸ hq) (by omega)]
      · rw [pl_pk_n0 hq c, pl_pk_n0 (q ▸ hq) (by omega)]
    · have hb := pl_pk_lt hq
      have e1 := he b (by omega) hb.2
      by_cases c : 0 < w i ∧ e i < e b
      · have e2 := he i (by omega) c.1
        rw [pl_pk_s1 hq c, pl_pk_s1 (q ▸ hq) ⟨by omega, by omega⟩]
      · rw [pl_pk_s0 hq c, pl_pk_s0 (q ▸ hq) (fun d => c ⟨by omega, by have e2 := he i (by omega) (by omega); omega⟩)]
def pl_w1 (of per wk : Nat → Nat) (c : Nat) (w : Nat → Nat) : Nat → Nat := fun t => if sp_rel (of t) (per t) c then wk t else w t
def pl_e1 (of per dl : Nat → Nat) (c : Nat) (e : Nat → Nat) : Nat → Nat := fun t => if sp_rel (of t) (per t) c then c + dl t else e t
def pl_w2 (w : Nat → Nat) (k : Option Nat) : Nat → Nat := fun t => if k = some t then w t - 1 else w t
/-- what the tasks want, and when their windows end, ahead of tick c -/
def pl_sim (n : Nat) (per wk dl of : Nat → Nat) : Nat → (Nat → Nat) × (Nat → Nat)
  | 0 => (fun _ => 0, fun _ => 0)
  | c + 1 => (pl_w2 (pl_w1 of per wk c (pl_sim n per wk dl of c).1) (pl_pk (pl_w1 of per wk c (pl_sim n per wk dl of c).1) (pl_e1 of per dl c (pl_sim n per wk dl of c).2) n), pl_e1 of per dl c (pl_sim n per wk dl of c).2)
def pl_who (n : Nat) (per wk dl of : Nat → Nat) (c : Nat) : Option Nat := pl_pk (pl_w1 of per wk c (pl_sim n per wk dl of c).1) (pl_e1 of per dl c (pl_sim n per wk dl of c).2) n
def pl_miss (n : Nat) (per wk dl of : Nat → Nat) (c : Nat) : Prop := ∃ t, t < n ∧ 0 < (pl_sim n per wk dl of c).1 t ∧ (pl_sim n per wk dl of c).2 t ≤ c
theorem pl_sim_w {n : Nat} {per wk dl of : Nat → Nat} (hb : ∀ t, t < n → wk t ≤ 48) (c t : Nat) (ht : t < n) : (pl_sim n per wk dl of c).1 t ≤ 48 := by
  induction c with
  | zero => exact Nat.zero_le _
  | succ c ih =>
    have q := hb t ht
    have hw : pl_w1 of per wk c (pl_sim n per wk dl of c).1 t ≤ 48 := by
      unfold pl_w1
      by_cases d : sp_rel (of t) (per t) c
      · rw [if_pos d]; exact q
      · rw [if_neg d]; exact ih
    show pl_w2 _ _ t ≤ 48
    unfold pl_w2
    split <;> omega
theorem pl_sim_e {n : Nat} {per wk dl of : Nat → Nat} (hb : ∀ t, t < n → dl t ≤ 48) (c t : Nat) (ht : t < n) : (pl_sim n per wk dl of c).2 t ≤ c + 48 := by
  induction c with
  | zero => exact Nat.zero_le _
  | succ c ih =>
    have q := hb t ht
    show pl_e1 of per dl c (pl_sim n per wk dl of c).2 t ≤ c + 1 + 48
    unfold pl_e1
    by_cases d : sp_rel (of t) (per t) c
    · rw [if_pos d]; omega
    · rw [if_neg d]; omega
/-- the planner's two rows hold w, and e where something is wanted -/
def plOK (M : Nat → Nat → Int32) (n : Nat) (w e : Nat → Nat) : Prop := ∀ t, t < n → M 8 t = nI (w t) ∧ (0 < w t → M 9 t = nI (e t)) ∧ w t < 2 ^ 20 ∧ e t < 2 ^ 20

set_option maxHeartbeats 4000000 in
set_option maxRecDepth 100000 in
/-- mostUrgent -/
theorem c_Pl_mostUrgent (l : Launch) (D : va_G) (ca : Nat → ClassId) (ad : Nat → Nat) (M : Nat → Nat → Int32) (n : Nat) (w en : Nat → Nat) (hn : n ≤ 6) (hP : plOK M n w en) : xw_Mi l y_Pl_mostUrgent (.code y_Pl_mostUrgent b_Pl_mostUrgent 4 (some .int) :: zG) { frames := 0, cells := 0, slots := 0, locals := 0 } D zCl (zT ca) [.ref (ad 7), .int (nI n)] (zW ca ad M) (fun _ => True) 0 0 (zW ca ad) (fun r M' => M' = M ∧ r = oI (pl_pk w en n)) := by
  intro sz
  refine xw_met (cc := b_Pl_mostUrgent) (maxL := 4) (ret := (some .int)) (by decide) rfl (Nat.le_of_ble_eq_true rfl) (fun p e s m args below meth c hr hlk hnm hsz hKs C => ?_)
  have loop1 : ∀ (d : Nat) (i : Nat) (v : Int32), n - i = d → i ≤ n → v = oI (pl_pk w en i) → XW p l e { frames := 0, cells := 0, slots := 0, locals := 0 } s m args below meth c D zCl (va_A (zW ca ad M) sz) s.heap 4 (zW ca ad M) 0 0 (MQ below (va_Qi (fun r M' => M' = M ∧ r = oI (pl_pk w en n)) (xw_B D zCl (zT ca) (va_A (zW ca ad M) sz) (zW ca ad)) (va_A (zW ca ad M) sz)) args s 0 0 (va_A (zW ca ad M) sz)) 4 [(0, .ref (ad 7)), (1, .int (nI n)), (2, .int v), (3, .int (nI i))] [] := by
    intro d
    induction d using Nat.strongRecOn with
    | _ d ih =>
      intro i v hd hi hv
      rcases hq : pl_pk w en i with _ | b
      ·
        have hv : v = -1 := by rw [hv, hq]; rfl
        subst hv
        refine xw_iload_n C 3 d_Pl_mostUrgent_4 rfl rfl (pc' := 5) rfl ?_
        refine xw_iload_n C 1 d_Pl_mostUrgent_5 rfl rfl (pc' := 6) rfl ?_
        refine xw_icmp_ge C (tgt := 46) d_Pl_mostUrgent_6 (by decide) (pc' := 9) rfl (fun h6 => ?_) (fun h6 => ?_)
        ·
          replace h6 : n ≤ i := (nI_leI (by omega) (by omega)).mp h6
          refine xw_iload_n C 2 d_Pl_mostUrgent_46 rfl rfl (pc' := 47) rfl ?_
          refine xw_iret C hr hlk (F := zW ca ad) M rfl ?_ d_Pl_mostUrgent_47
          exact ⟨rfl, by rw [show n = i by omega, hq]; rfl⟩
        ·
          replace h6 : ¬ (n ≤ i) := fun hneg => h6 ((nI_leI (by omega) (by omega)).mpr hneg)
          refine xw_aload_n C 0 d_Pl_mostUrgent_9 rfl rfl (pc' := 10) rfl ?_
          refine xw_get C u_Pl 7 zr_7 rfl 0 (by decide) k_160 rfl rfl d_Pl_mostUrgent_10 (pc' := 13) rfl ?_
          refine xw_iload_n C 3 d_Pl_mostUrgent_13 rfl rfl (pc' := 14) rfl ?_
          refine xw_iald C 8 0 zr_8 rfl i rfl (by omega) (by decide) d_Pl_mostUrgent_14 (pc' := 15) rfl ?_
          have hwi := hP i (by omega)
          refine xw_topi (y := nI (w i)) (hP _ (by omega)).1 ?_
          refine xw_if_le C (tgt := 40) d_Pl_mostUrgent_15 (by decide) (pc' := 18) rfl (fun h15 => ?_) (fun h15 => ?_)
          ·
            replace h15 : (w i) ≤ 0 := (xp_le0 (by omega)).mp h15
            refine xw_iinc C 3 (v := nI (i + 1)) d_Pl_mostUrgent_40 rfl (xp_inc1 _) (by decide) rfl (pc' := 43) rfl ?_
            refine xw_goto C (tgt := 4) d_Pl_mostUrgent_43 (by decide) ?_
            refine xw_lv [1, 2, 3, 0] rfl ?_
            exact ih (n - (i + 1)) (by omega) (i + 1) _ rfl (by omega) (by rw [pl_pk_n0 hq (by omega)]; rfl)
          ·
            replace h15 : ¬ ((w i) ≤ 0) := fun hneg => h15 ((xp_le0 (by omega)).mpr hneg)
            refine xw_iload_n C 2 d_Pl_mostUrgent_18 rfl rfl (pc' := 19) rfl ?_
            refine xw_iconst C (v := (-1)) d_Pl_mostUrgent_19 (by decide) (pc' := 20) rfl ?_
            refine xw_icmp_eq C (tgt := 38) d_Pl_mostUrgent_20 (by decide) (pc' := 23) rfl (fun h20 => ?_) (fun h20 => ?_)
            ·
              refine xw_iload_n C 3 d_Pl_mostUrgent_38 rfl rfl (pc' := 39) rfl ?_
              refine xw_istore_n C d_Pl_mostUrgent_39 rfl (by decide) rfl (pc' := 40) rfl ?_
              refine xw_iinc C 3 (v := nI (i + 1)) d_Pl_mostUrgent_40 rfl (xp_inc1 _) (by decide) rfl (pc' := 43) rfl ?_
              refine xw_goto C (tgt := 4) d_Pl_mostUrgent_43 (by decide) ?_
              refine xw_lv [2, 3, 1, 0] rfl ?_
              exact ih (n - (i + 1)) (by omega) (i + 1) _ rfl (by omega) (by rw [pl_pk_n1 hq (by omega)]; rfl)
            ·
              exact absurd rfl h20
      ·
        have hv : v = nI b := by rw [hv, hq]; rfl
        subst hv
        have hb := pl_pk_lt hq
        have hPb := hP b (by omega)
        refine xw_iload_n C 3 d_Pl_mostUrgent_4 rfl rfl (pc' := 5) rfl ?_
        refine xw_iload_n C 1 d_Pl_mostUrgent_5 rfl rfl (pc' := 6) rfl ?_
        refine xw_icmp_ge C (tgt := 46) d_Pl_mostUrgent_6 (by decide) (pc' := 9) rfl (fun h6 => ?_) (fun h6 => ?_)
        ·
          replace h6 : n ≤ i := (nI_leI (by omega) (by omega)).mp h6
          refine xw_iload_n C 2 d_Pl_mostUrgent_46 rfl rfl (pc' := 47) rfl ?_
          refine xw_iret C hr hlk (F := zW ca ad) M rfl ?_ d_Pl_mostUrgent_47
          exact ⟨rfl, by rw [show n = i by omega, hq]; rfl⟩
        ·
          replace h6 : ¬ (n ≤ i) := fun hneg => h6 ((nI_leI (by omega) (by omega)).mpr hneg)
          refine xw_aload_n C 0 d_Pl_mostUrgent_9 rfl rfl (pc' := 10) rfl ?_
          refine xw_get C u_Pl 7 zr_7 rfl 0 (by decide) k_160 rfl rfl d_Pl_mostUrgent_10 (pc' := 13) rfl ?_
          refine xw_iload_n C 3 d_Pl_mostUrgent_13 rfl rfl (pc' := 14) rfl ?_
          refine xw_iald C 8 0 zr_8 rfl i rfl (by omega) (by decide) d_Pl_mostUrgent_14 (pc' := 15) rfl ?_
          have hwi := hP i (by omega)
          refine xw_topi (y := nI (w i)) (hP _ (by omega)).1 ?_
          refine xw_if_le C (tgt := 40) d_Pl_mostUrgent_15 (by decide) (pc' := 18) rfl (fun h15 => ?_) (fun h15 => ?_)
          ·
            replace h15 : (w i) ≤ 0 := (xp_le0 (by omega)).mp h15
            refine xw_iinc C 3 (v := nI (i + 1)) d_Pl_mostUrgent_40 rfl (xp_inc1 _) (by decide) rfl (pc' := 43) rfl ?_
            refine xw_goto C (tgt := 4) d_Pl_mostUrgent_43 (by decide) ?_
            refine xw_lv [1, 2, 3, 0] rfl ?_
            exact ih (n - (i + 1)) (by omega) (i + 1) _ rfl (by omega) (by rw [pl_pk_s0 hq (by omega)]; rfl)
          ·
            replace h15 : ¬ ((w i) ≤ 0) := fun hneg => h15 ((xp_le0 (by omega)).mpr hneg)
            refine xw_iload_n C 2 d_Pl_mostUrgent_18 rfl rfl (pc' := 19) rfl ?_
            refine xw_iconst C (v := (-1)) d_Pl_mostUrgent_19 (by decide) (pc' := 20) rfl ?_
            refine xw_icmp_eq C (tgt := 38) d_Pl_mostUrgent_20 (by decide) (pc' := 23) rfl (fun h20 => ?_) (fun h20 => ?_)
            ·
              exact absurd h20 (xp_nem1 (by omega))
            ·
              refine xw_aload_n C 0 d_Pl_mostUrgent_23 rfl rfl (pc' := 24) rfl ?_
              refine xw_get C u_Pl 7 zr_7 rfl 1 (by decide) k_161 rfl rfl d_Pl_mostUrgent_24 (pc' := 27) rfl ?_
              refine xw_iload_n C 3 d_Pl_mostUrgent_27 rfl rfl (pc' := 28) rfl ?_
              
              refine xw_iald C 9 0 zr_9 rfl i rfl (by omega) (by decide) d_Pl_mostUrgent_28 (pc' := 29) rfl ?_
              refine xw_topi (y := nI (en i)) ((hP i (by omega)).2.1 (by omega)) ?_
              refine xw_aload_n C 0 d_Pl_mostUrgent_29 rfl rfl (pc' := 30) rfl ?_
              refine xw_get C u_Pl 7 zr_7 rfl 1 (by decide) k_161 rfl rfl d_Pl_mostUrgent_30 (pc' := 33) rfl ?_
              refine xw_iload_n C 2 d_Pl_mostUrgent_33 rfl rfl (pc' := 34) rfl ?_
              refine xw_iald C 9 0 zr_9 rfl b rfl (by omega) (by decide) d_Pl_mostUrgent_34 (pc' := 35) rfl ?_
              refine xw_topi (y := nI (en b)) ((hP b (by omega)).2.1 (by omega)) ?_
              refine xw_icmp_ge C (tgt := 40) d_Pl_mostUrgent_35 (by decide) (pc' := 38) rfl (fun h35 => ?_) (fun h35 => ?_)
              ·
                replace h35 : (en b) ≤ (en i) := (nI_leI (by omega) (by omega)).mp h35
                refine xw_iinc C 3 (v := nI (i + 1)) d_Pl_mostUrgent_40 rfl (xp_inc1 _) (by decide) rfl (pc' := 43) rfl ?_
                refine xw_goto C (tgt := 4) d_Pl_mostUrgent_43 (by decide) ?_
                refine xw_lv [1, 2, 3, 0] rfl ?_
                exact ih (n - (i + 1)) (by omega) (i + 1) _ rfl (by omega) (by rw [pl_pk_s0 hq (by omega)]; rfl)
              ·
                replace h35 : ¬ ((en b) ≤ (en i)) := fun hneg => h35 ((nI_leI (by omega) (by omega)).mpr hneg)
                refine xw_iload_n C 3 d_Pl_mostUrgent_38 rfl rfl (pc' := 39) rfl ?_
                refine xw_istore_n C d_Pl_mostUrgent_39 rfl (by decide) rfl (pc' := 40) rfl ?_
                refine xw_iinc C 3 (v := nI (i + 1)) d_Pl_mostUrgent_40 rfl (xp_inc1 _) (by decide) rfl (pc' := 43) rfl ?_
                refine xw_goto C (tgt := 4) d_Pl_mostUrgent_43 (by decide) ?_
                refine xw_lv [2, 3, 1, 0] rfl ?_
                exact ih (n - (i + 1)) (by omega) (i + 1) _ rfl (by omega) (by rw [pl_pk_s1 hq ⟨by omega, by omega⟩]; rfl)
  refine xw_lvE (lv' := [(0, .ref (ad 7)), (1, .int (nI n))]) rfl ?_
  refine xw_iconst C (v := (-1)) d_Pl_mostUrgent_0 (by decide) (pc' := 1) rfl ?_
  refine xw_istore_n C d_Pl_mostUrgent_1 rfl (by decide) rfl (pc' := 2) rfl ?_
  refine xw_iconst C (v := nI 0) d_Pl_mostUrgent_2 (by decide) (pc' := 3) rfl ?_
  refine xw_istore_n C d_Pl_mostUrgent_3 rfl (by decide) rfl (pc' := 4) rfl ?_
  refine xw_lv [2, 3, 1, 0] rfl ?_
  exact loop1 n 0 _ rfl (by omega) rfl

set_option maxHeartbeats 4000000 in
set_option maxRecDepth 100000 in
/-- missesWindow -/
theorem c_Pl_missesWindow (l : Launch) (D : va_G) (ca : Nat → ClassId) (ad : Nat → Nat) (M : Nat → Nat → Int32) (n : Nat) (w en : Nat → Nat) (tm : Nat) (hn : n ≤ 6) (hP : plOK M n w en) (htm : tm < 2 ^ 31) : xw_Mi l y_Pl_missesWindow (.code y_Pl_missesWindow b_Pl_missesWindow 4 (some .boolean) :: zG) { frames := 0, cells := 0, slots := 0, locals := 0 } D zCl (zT ca) [.ref (ad 7), .int (nI n), .int (nI tm)] (zW ca ad M) (fun _ => True) 0 0 (zW ca ad) (fun r M' => M' = M ∧ ((∃ t, t < n ∧ 0 < w t ∧ en t ≤ tm) ∧ r = nI 1 ∨ ¬ (∃ t, t < n ∧ 0 < w t ∧ en t ≤ tm) ∧ r = nI 0)) := by
  intro sz
  refine xw_met (cc := b_Pl_missesWindow) (maxL := 4) (ret := (some .boolean)) (by decide) rfl (Nat.le_of_ble_eq_true rfl) (fun p e s m args below meth c hr hlk hnm hsz hKs C => ?_)
  have loop1 : ∀ (d : Nat) (i : Nat), n - i = d → i ≤ n → (∀ t, t < i → ¬ (0 < w t ∧ en t ≤ tm)) → XW p l e { frames := 0, cells := 0, slots := 0, locals := 0 } s m args below meth c D zCl (va_A (zW ca ad M) sz) s.heap 4 (zW ca ad M) 0 0 (MQ below (va_Qi (fun r M' => M' = M ∧ ((∃ t, t < n ∧ 0 < w t ∧ en t ≤ tm) ∧ r = nI 1 ∨ ¬ (∃ t, t < n ∧ 0 < w t ∧ en t ≤ tm) ∧ r = nI 0)) (xw_B D zCl (zT ca) (va_A (zW ca ad M) sz) (zW ca ad)) (va_A (zW ca ad M) sz)) args s 0 0 (va_A (zW ca ad M) sz)) 2 [(0, .ref (ad 7)), (1, .int (nI n)), (2, .int (nI tm)), (3, .int (nI i))] [] := by
    intro d
    induction d using Nat.strongRecOn with
    | _ d ih =>
      intro i hd hi hall
      refine xw_iload_n C 3 d_Pl_missesWindow_2 rfl rfl (pc' := 3) rfl ?_
      refine xw_iload_n C 1 d_Pl_missesWindow_3 rfl rfl (pc' := 4) rfl ?_
      refine xw_icmp_ge C (tgt := 34) d_Pl_missesWindow_4 (by decide) (pc' := 7) rfl (fun h4 => ?_) (fun h4 => ?_)
      ·
        replace h4 : n ≤ i := (nI_leI (by omega) (by omega)).mp h4
        refine xw_iconst C (v := nI 0) d_Pl_missesWindow_34 (by decide) (pc' := 35) rfl ?_
        refine xw_zret C hr hlk xp_n0 (F := zW ca ad) M rfl ?_ d_Pl_missesWindow_35
        exact ⟨rfl, Or.inr ⟨fun h9 => by obtain ⟨t, h1, h2⟩ := h9; exact hall t (by omega) h2, rfl⟩⟩
      ·
        replace h4 : ¬ (n ≤ i) := fun hneg => h4 ((nI_leI (by omega) (by omega)).mpr hneg)
        refine xw_aload_n C 0 d_Pl_missesWindow_7 rfl rfl (pc' := 8) rfl ?_
        refine xw_get C u_Pl 7 zr_7 rfl 0 (by decide) k_160 rfl rfl d_Pl_missesWindow_8 (pc' := 11) rfl ?_
        refine xw_iload_n C 3 d_Pl_missesWindow_11 rfl rfl (pc' := 12) rfl ?_
        refine xw_iald C 8 0 zr_8 rfl i rfl (by omega) (by decide) d_Pl_missesWindow_12 (pc' := 13) rfl ?_
        have hwi := hP i (by omega)
        refine xw_topi (y := nI (w i)) (hP _ (by omega)).1 ?_
        refine xw_if_le C (tgt := 28) d_Pl_missesWindow_13 (by decide) (pc' := 16) rfl (fun h13 => ?_) (fun h13 => ?_)
        ·
          replace h13 : (w i) ≤ 0 := (xp_le0 (by omega)).mp h13
          refine xw_iinc C 3 (v := nI (i + 1)) d_Pl_missesWindow_28 rfl (xp_inc1 _) (by decide) rfl (pc' := 31) rfl ?_
          refine xw_goto C (tgt := 2) d_Pl_missesWindow_31 (by decide) ?_
          refine xw_lv [1, 2, 3, 0] rfl ?_
          exact ih (n - (i + 1)) (by omega) (i + 1) rfl (by omega) (fun t ht => by
            rcases Nat.lt_or_ge t i with c9 | c9
            · exact hall t c9
            · rw [show t = i by omega]; omega)
        ·
          replace h13 : ¬ ((w i) ≤ 0) := fun hneg => h13 ((xp_le0 (by omega)).mpr hneg)
          refine xw_aload_n C 0 d_Pl_missesWindow_16 rfl rfl (pc' := 17) rfl ?_
          refine xw_get C u_Pl 7 zr_7 rfl 1 (by decide) k_161 rfl rfl d_Pl_missesWindow_17 (pc' := 20) rfl ?_
          refine xw_iload_n C 3 d_Pl_missesWindow_20 rfl rfl (pc' := 21) rfl ?_
          refine xw_iald C 9 0 zr_9 rfl i rfl (by omega) (by decide) d_Pl_missesWindow_21 (pc' := 22) rfl ?_
          refine xw_topi (y := nI (en i)) ((hP i (by omega)).2.1 (by omega)) ?_
          refine xw_iload_n C 2 d_Pl_missesWindow_22 rfl rfl (pc' := 23) rfl ?_
          refine xw_icmp_gt C (tgt := 28) d_Pl_missesWindow_23 (by decide) (pc' := 26) rfl (fun h23 => ?_) (fun h23 => ?_)
          ·
            replace h23 : tm < (en i) := (nI_ltI (by omega) (by omega)).mp h23
            refine xw_iinc C 3 (v := nI (i + 1)) d_Pl_missesWindow_28 rfl (xp_inc1 _) (by decide) rfl (pc' := 31) rfl ?_
            refine xw_goto C (tgt := 2) d_Pl_missesWindow_31 (by decide) ?_
            refine xw_lv [1, 2, 3, 0] rfl ?_
            exact ih (n - (i + 1)) (by omega) (i + 1) rfl (by omega) (fun t ht => by
              rcases Nat.lt_or_ge t i with c9 | c9
              · exact hall t c9
              · rw [show t = i by omega]; omega)
          ·
            replace h23 : ¬ (tm < (en i)) := fun hneg => h23 ((nI_ltI (by omega) (by omega)).mpr hneg)
            refine xw_iconst C (v := nI 1) d_Pl_missesWindow_26 (by decide) (pc' := 27) rfl ?_
            refine xw_zret C hr hlk xp_n1 (F := zW ca ad) M rfl ?_ d_Pl_missesWindow_27
            exact ⟨rfl, Or.inl ⟨⟨i, by omega, by omega, by omega⟩, rfl⟩⟩
  refine xw_lvE (lv' := [(0, .ref (ad 7)), (1, .int (nI n)), (2, .int (nI tm))]) rfl ?_
  refine xw_iconst C (v := nI 0) d_Pl_missesWindow_0 (by decide) (pc' := 1) rfl ?_
  refine xw_istore_n C d_Pl_missesWindow_1 rfl (by decide) rfl (pc' := 2) rfl ?_
  refine xw_lv [1, 2, 3, 0] rfl ?_
  exact loop1 n 0 rfl (by omega) (fun t ht => by omega)

set_option maxHeartbeats 4000000 in
set_option maxRecDepth 100000 in
/-- release(tm) -/
theorem c_Pl_release (l : Launch) (D : va_G) (ca : Nat → ClassId) (ad : Nat → Nat) (M : Nat → Nat → Int32) (n : Nat) (per wk dl of : Nat → Nat) (tm : Nat) (hT : tkOK M n per wk dl of) (htm : tm < 2 ^ 31) : xw_Mv l y_Pl_release (.code y_Pl_release b_Pl_release 5 none :: zG) { frames := 1, cells := 0, slots := 0, locals := 21 } D zCl (zT ca) [.ref (ad 7), .ref (ad 1), .int (nI tm)] (zW ca ad M) (fun _ => True) 0 0 (zW ca ad) (fun M' => (∀ a b, a ≠ 8 → a ≠ 9 → M' a b = M a b) ∧ (∀ t, t < n → M' 8 t = if t < n ∧ sp_rel (of t) (per t) tm then nI (wk t) else M 8 t) ∧ (∀ t, t < n → M' 9 t = if t < n ∧ sp_rel (of t) (per t) tm then nI (tm + dl t) else M 9 t)) := by
  intro sz
  refine xw_met (cc := b_Pl_release) (maxL := 5) (ret := none) (by decide) rfl (Nat.le_of_ble_eq_true rfl) (fun p e s m args below meth c hr hlk hnm hsz hKs C => ?_)
  have hn6 := hT.1
  have loop1 : ∀ (d : Nat) (i : Nat) (M1 : Nat → Nat → Int32), n - i = d → i ≤ n → ((∀ a b, a ≠ 8 → a ≠ 9 → M1 a b = M a b) ∧ (∀ t, t < n → M1 8 t = if t < i ∧ sp_rel (of t) (per t) tm then nI (wk t) else M 8 t) ∧ (∀ t, t < n → M1 9 t = if t < i ∧ sp_rel (of t) (per t) tm then nI (tm + dl t) else M 9 t)) → XW p l e { frames := 1, cells := 0, slots := 0, locals := 21 } s m args below meth c D zCl (va_A (zW ca ad M) sz) s.heap 5 (zW ca ad M1) 0 0 (MQ below (va_Qv (fun M' => (∀ a b, a ≠ 8 → a ≠ 9 → M' a b = M a b) ∧ (∀ t, t < n → M' 8 t = if t < n ∧ sp_rel (of t) (per t) tm then nI (wk t) else M 8 t) ∧ (∀ t, t < n → M' 9 t = if t < n ∧ sp_rel (of t) (per t) tm then nI (tm + dl t) else M 9 t)) (xw_B D zCl (zT ca) (va_A (zW ca ad M) sz) (zW ca ad)) (va_A (zW ca ad M) sz)) args s 0 0 (va_A (zW ca ad M) sz)) 2 [(0, .ref (ad 7)), (1, .ref (ad 1)), (2, .int (nI tm)), (3, .int (nI i))] [] := by
    intro d
    induction d using Nat.strongRecOn with
    | _ d ih =>
      intro i M1 hd hi hK
      obtain ⟨hk1, hk2, hk3⟩ := hK
      have hT1 : tkOK M1 n per wk dl of := hT.keep (hk1 _ _ (by decide) (by decide)) (fun t j ht => hk1 _ _ (by omega) (by omega))
      refine xw_iload_n C 3 d_Pl_release_2 rfl rfl (pc' := 3) rfl ?_
      refine xw_aload_n C 1 d_Pl_release_3 rfl rfl (pc' := 4) rfl ?_
      refine xw_get C u_Tl 1 zr_1 rfl 1 (by decide) k_127 rfl rfl d_Pl_release_4 (pc' := 7) rfl ?_
      refine xw_topi (y := nI n) ((hk1 _ _ (by decide) (by decide)).trans hT.2.1) ?_
      refine xw_icmp_ge C (tgt := 57) d_Pl_release_7 (by decide) (pc' := 10) rfl (fun h7 => ?_) (fun h7 => ?_)
      ·
        replace h7 : n ≤ i := (nI_leI (by omega) (by omega)).mp h7
        refine xw_vret C hr hlk (F := zW ca ad) M1 rfl ?_ d_Pl_release_57
        rw [show i = n by omega] at hk2 hk3
        exact ⟨hk1, hk2, hk3⟩
      ·
        replace h7 : ¬ (n ≤ i) := fun hneg => h7 ((nI_leI (by omega) (by omega)).mpr hneg)
        refine xw_aload_n C 1 d_Pl_release_10 rfl rfl (pc' := 11) rfl ?_
        refine xw_get C u_Tl 1 zr_1 rfl 0 (by decide) k_124 rfl rfl d_Pl_release_11 (pc' := 14) rfl ?_
        refine xw_iload_n C 3 d_Pl_release_14 rfl rfl (pc' := 15) rfl ?_
        refine xw_aald C 2 1 zr_2 rfl i rfl (by omega) (by decide) rfl d_Pl_release_15 (pc' := 16) rfl ?_
        refine xw_astore C d_Pl_release_16 (by decide) rfl (pc' := 18) rfl ?_
        refine xw_aload C 0 d_Pl_release_18 rfl (pc' := 20) rfl ?_
        refine xw_iload_n C 3 d_Pl_release_20 rfl rfl (pc' := 21) rfl ?_
        refine xw_callVi C (c_Tk_releasesAt l D ca ad M1 i tm (of i) (per i) (by omega) (by omega) (hT1.2.2 _ (by omega)).2.2.2.1 (by have := hT.2.2 i (by omega); omega) (hT1.2.2 _ (by omega)).1 (by have := hT.2.2 i (by omega); omega) (by have := hT.2.2 i (by omega); omega)) ⟨zg_B C 1 k_407 k_26 k_410 q_Tk_releasesAt ⟨by decide, by decide⟩, C.2.2.2.2.1 _ k_408, C.2.2.2.2.1 _ k_409⟩ (14 + i) (zr_Tk (t := i) (by omega)) rfl rfl (fun _ _ _ _ h => h) (fun _ _ _ _ _ _ _ => trivial) rfl rfl (Nat.le_of_ble_eq_true rfl) d_Pl_release_21 ⟨by decide, by decide⟩ (pc' := 24) rfl (fun r51 M52 hp53 => ?_)
        obtain ⟨hme, hp53⟩ := hp53
        rw [hme]
        clear hme
        rcases hp53 with ⟨hrl, rfl⟩ | ⟨hrl, rfl⟩
        ·
          refine xw_if_eq C (tgt := 51) d_Pl_release_24 (by decide) (pc' := 27) rfl (fun h24 => ?_) (fun h24 => ?_)
          ·
            replace h24 : 1 = 0 := (xp_eq0 (by omega)).mp h24
            omega
          ·
            replace h24 : ¬ (1 = 0) := fun hneg => h24 ((xp_eq0 (by omega)).mpr hneg)
            refine xw_aload_n C 1 d_Pl_release_27 rfl rfl (pc' := 28) rfl ?_
            refine xw_get C u_Pl 7 zr_7 rfl 0 (by decide) k_160 rfl rfl d_Pl_release_28 (pc' := 31) rfl ?_
            refine xw_iload_n C 4 d_Pl_release_31 rfl rfl (pc' := 32) rfl ?_
            refine xw_aload C 0 d_Pl_release_32 rfl (pc' := 34) rfl ?_
            refine xw_get C u_Tk (14 + i) (zr_Tk (t := i) (by omega)) rfl 1 (by decide) k_93 rfl rfl d_Pl_release_34 (pc' := 37) rfl ?_
            refine xw_topi (y := nI (wk i)) (hT1.2.2 i (by omega)).2.1 ?_
            obtain ⟨M54, hM54⟩ : ∃ z, z = zst M1 8 i (nI (wk i)) := ⟨_, rfl⟩
            refine xw_iast C 8 0 zr_8 rfl i rfl (by omega) (by decide) (ws' := zW ca ad M54) (by rw [hM54]; exact zs_8 _ _) d_Pl_release_37 (pc' := 38) rfl ?_
            have hT2 : tkOK M54 n per wk dl of := hT1.keep (by rw [hM54, zst_ap, if_neg (fun h9 => absurd h9.1 (by decide))]) (fun t j ht => by rw [hM54, zst_ap, if_neg (fun h9 => absurd h9.1 (by omega))])
            refine xw_aload_n C 1 d_Pl_release_38 rfl rfl (pc' := 39) rfl ?_
            refine xw_get C u_Pl 7 zr_7 rfl 1 (by decide) k_161 rfl rfl d_Pl_release_39 (pc' := 42) rfl ?_
            refine xw_iload_n C 4 d_Pl_release_42 rfl rfl (pc' := 43) rfl ?_
            refine xw_iload_n C 3 d_Pl_release_43 rfl rfl (pc' := 44) rfl ?_
            refine xw_aload C 0 d_Pl_release_44 rfl (pc' := 46) rfl ?_
            refine xw_get C u_Tk (14 + i) (zr_Tk (t := i) (by omega)) rfl 2 (by decide) k_97 rfl rfl d_Pl_release_46 (pc' := 49) rfl ?_
            refine xw_topi (y := nI (dl i)) (hT2.2.2 i (by omega)).2.2.1 ?_
            refine xw_iadd C d_Pl_release_49 (pc' := 50) rfl ?_
            refine xw_topi (y := nI (tm + (dl i))) (nI_add _ _) ?_
            obtain ⟨M55, hM55⟩ : ∃ z, z = zst M54 9 i (nI (tm + (dl i))) := ⟨_, rfl⟩
            refine xw_iast C 9 0 zr_9 rfl i rfl (by omega) (by decide) (ws' := zW ca ad M55) (by rw [hM55]; exact zs_9 _ _) d_Pl_release_50 (pc' := 51) rfl ?_
            refine xw_iinc C 4 (v := nI (i + 1)) d_Pl_release_51 rfl (xp_inc1 _) (by decide) rfl (pc' := 54) rfl ?_
            refine xw_goto C (tgt := 2) d_Pl_release_54 (by decide) ?_
            refine xw_lv [2, 3, 4, 0] rfl ?_
            refine ih (n - (i + 1)) (by omega) (i + 1) M55 rfl (by omega) ⟨fun a b h1 h2 => ?_, fun t ht => ?_, fun t ht => ?_⟩
            · rw [hM55, zst_ap, if_neg (fun h9 => h2 h9.1), hM54, zst_ap, if_neg (fun h9 => h1 h9.1)]; exact hk1 a b h1 h2
            · rw [hM55, zst_ap, if_neg (fun h9 => absurd h9.1 (by decide)), hM54, zst_ap]
              by_cases c : t = i
              · subst c; rw [if_pos ⟨rfl, rfl⟩, if_pos ⟨by omega, hrl⟩]
              · rw [if_neg (fun h9 => c h9.2), hk2 t ht]
                by_cases c2 : t < i ∧ sp_rel (of t) (per t) tm
                · rw [if_pos c2, if_pos ⟨by omega, c2.2⟩]
                · rw [if_neg c2, if_neg (fun h9 => c2 ⟨by omega, h9.2⟩)]
            · rw [hM55, zst_ap]
              by_cases c : t = i
              · subst c; rw [if_pos ⟨rfl, rfl⟩, if_pos ⟨by omega, hrl⟩]
              · rw [if_neg (fun h9 => c h9.2), hM54, zst_ap, if_neg (fun h9 => absurd h9.1 (by decide)), hk3 t ht]
                by_cases c2 : t < i ∧ sp_rel (of t) (per t) tm
                · rw [if_pos c2, if_pos ⟨by omega, c2.2⟩]
                · rw [if_neg c2, if_neg (fun h9 => c2 ⟨by omega, h9.2⟩)]
        ·
          refine xw_if_eq C (tgt := 51) d_Pl_release_24 (by decide) (pc' := 27) rfl (fun h24 => ?_) (fun h24 => ?_)
          ·
            replace h24 : 0 = 0 := (xp_eq0 (by omega)).mp h24
            refine xw_iinc C 4 (v := nI (i + 1)) d_Pl_release_51 rfl (xp_inc1 _) (by decide) rfl (pc' := 54) rfl ?_
            refine xw_goto C (tgt := 2) d_Pl_release_54 (by decide) ?_
            refine xw_lv [2, 3, 4, 0] rfl ?_
            refine ih (n - (i + 1)) (by omega) (i + 1) M1 rfl (by omega) ⟨hk1, fun t ht => ?_, fun t ht => ?_⟩
            · rw [hk2 t ht]
              by_cases c : t = i
              · subst c; rw [if_neg (by omega), if_neg (fun h9 => hrl h9.2)]
              · by_cases c2 : t < i ∧ sp_rel (of t) (per t) tm
                · rw [if_pos c2, if_pos ⟨by omega, c2.2⟩]
                · rw [if_neg c2, if_neg (fun h9 => c2 ⟨by omega, h9.2⟩)]
            · rw [hk3 t ht]
              by_cases c : t = i
              · subst c; rw [if_neg (by omega), if_neg (fun h9 => hrl h9.2)]
              · by_cases c2 : t < i ∧ sp_rel (of t) (per t) tm
                · rw [if_pos c2, if_pos ⟨by omega, c2.2⟩]
                · rw [if_neg c2, if_neg (fun h9 => c2 ⟨by omega, h9.2⟩)]
          ·
            replace h24 : ¬ (0 = 0) := fun hneg => h24 ((xp_eq0 (by omega)).mpr hneg)
            omega
  refine xw_lvE (lv' := [(0, .ref (ad 7)), (1, .ref (ad 1)), (2, .int (nI tm))]) rfl ?_
  refine xw_iconst C (v := nI 0) d_Pl_release_0 (by decide) (pc' := 1) rfl ?_
  refine xw_istore_n C d_Pl_release_1 rfl (by decide) rfl (pc' := 2) rfl ?_
  refine xw_lv [1, 2, 3, 0] rfl ?_
  exact loop1 n 0 M rfl (by omega) ⟨fun _ _ _ _ => rfl, fun t ht => by rw [if_neg (by omega)], fun t ht => by rw [if_neg (by omega)]⟩
