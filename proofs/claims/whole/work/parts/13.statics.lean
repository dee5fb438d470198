def rm_X6_isIn : Room := { frames := 0, cells := 0, slots := 0, locals := 0 }
set_option maxHeartbeats 4000000 in
set_option maxRecDepth 100000 in
theorem c_X6_isIn (l : Launch) (dC : Nat → ClassId) (dI : Nat → Nat → Nat) (cI cJ cZ : ClassId)  (N : Nat)  (v0 : Int32) (v1 : Int32) (v2 : Int32) {r : Int32} (hf : f_X6_isIn N  v0 v1 v2 = some r) :
    CtI l yX6_isIn wsX6_isIn rm_X6_isIn (dC, dI) (tyl cI cJ cZ) [.int v0, .int v1, .int v2] ([] : va_W) ([] : va_W) r := by
  refine startI (cc := cX6_isIn) (maxL := 3) (rt := (some .boolean)) (by decide +kernel) rfl (Nat.le_of_ble_eq_true rfl) ?_
  intro p e s m below meth c A ls X hr hlocks hw hl
  replace X : Cx p m c cX6_isIn 3 s _ wsX6_isIn RX6 (dC, dI) (tyl cI cJ cZ) A := X
  replace hl : lv_has ls 3 [(0, .int v0), (1, .int v1), (2, .int v2)] := hl
  obtain ⟨hx, hb, hml, hown, hts⟩ := X.1
  have hK := X.2.1
  have hN := X.2.2.2
  unfold f_X6_isIn at hf
  refine lv_iload_n hx hb dX6_isIn_0 rfl (lv_at hl 0 rfl) ?_
  refine lv_iload_n hx hb dX6_isIn_1 rfl (lv_at hl 1 rfl) ?_
  refine lv_icmp_lt (tgt := 14) hx hb dX6_isIn_2 (by decide) (fun b1 => ?_) (fun b1 => ?_)
  · replace hf := it_t hf b1
    refine lv_iconst (v := 0) hx hb dX6_isIn_14 (by decide) ?_
    have g2 := bz_nar (gd_l hf)
    replace hf := gd_r hf
    cases hf
    exact endI X hr g2 hlocks rfl hw dX6_isIn_15
  · replace hf := it_f hf b1
    refine lv_iload_n hx hb dX6_isIn_5 rfl (lv_at hl 0 rfl) ?_
    refine lv_iload_n hx hb dX6_isIn_6 rfl (lv_at hl 2 rfl) ?_
    refine lv_icmp_gt (tgt := 14) hx hb dX6_isIn_7 (by decide) (fun b3 => ?_) (fun b3 => ?_)
    · replace hf := it_t hf b3
      refine lv_iconst (v := 0) hx hb dX6_isIn_14 (by decide) ?_
      have g4 := bz_nar (gd_l hf)
      replace hf := gd_r hf
      cases hf
      exact endI X hr g4 hlocks rfl hw dX6_isIn_15
    · replace hf := it_f hf b3
      refine lv_iconst (v := 1) hx hb dX6_isIn_10 (by decide) ?_
      refine lv_goto (tgt := 15) hx hb dX6_isIn_11 (by decide) ?_
      have g5 := bz_nar (gd_l hf)
      replace hf := gd_r hf
      cases hf
      exact endI X hr g5 hlocks rfl hw dX6_isIn_15
def rm_X6_isEachSortOnce : Room := { frames := 1, cells := 0, slots := 0, locals := 22 }
set_option maxHeartbeats 4000000 in
set_option maxRecDepth 100000 in
theorem c_X6_isEachSortOnce (l : Launch) (dC : Nat → ClassId) (dI : Nat → Nat → Nat) (cI cJ cZ : ClassId)  (N : Nat)  (v0 : Int32) (v1 : Int32) (v2 : Int32) (v3 : Int32) {r : Int32} (hf : f_X6_isEachSortOnce N  v0 v1 v2 v3 = some r) :
    CtI l yX6_isEachSortOnce wsX6_isEachSortOnce rm_X6_isEachSortOnce (dC, dI) (tyl cI cJ cZ) [.int v0, .int v1, .int v2, .int v3] ([] : va_W) ([] : va_W) r := by
  refine startI (cc := cX6_isEachSortOnce) (maxL := 5) (rt := (some .boolean)) (by decide +kernel) rfl (Nat.le_of_ble_eq_true rfl) ?_
  intro p e s m below meth c A ls X hr hlocks hw hl
  replace X : Cx p m c cX6_isEachSortOnce 5 s _ wsX6_isEachSortOnce RX6 (dC, dI) (tyl cI cJ cZ) A := X
  replace hl : lv_has ls 5 [(0, .int v0), (1, .int v1), (2, .int v2), (3, .int v3)] := hl
  obtain ⟨hx, hb, hml, hown, hts⟩ := X.1
  have hK := X.2.1
  have hN := X.2.2.2
  unfold f_X6_isEachSortOnce at hf
  refine lv_iconst (v := 3) hx hb dX6_isEachSortOnce_0 (by decide) ?_
  refine lv_istore (lv' := [(4, .int 3), (0, .int v0), (1, .int v1), (2, .int v2), (3, .int v3)]) hx hb dX6_isEachSortOnce_1 hl (by decide) rfl (fun ls hl => ?_)
  refine lv_iload_n hx hb dX6_isEachSortOnce_3 rfl (lv_at hl 1 rfl) ?_
  refine lv_iconst (v := 0) hx hb dX6_isEachSortOnce_4 (by decide) ?_
  refine lv_iload hx hb dX6_isEachSortOnce_5 (lv_at hl 0 rfl) ?_
  obtain ⟨r1, h2, hf⟩ := bd1_ob hf
  refine clSI (As := [.int v0, .int (0 : Int32), .int (3 : Int32)]) (rest := []) X (c_X6_isIn l dC dI cI cJ cZ N v0 (0 : Int32) (3 : Int32) h2) (va_cwS 3 hts gX6_isEachSortOnce_X6_isIn rfl rfl rfl (by decide +kernel) ⟨Nat.le_of_ble_eq_true rfl, Nat.le_of_ble_eq_true rfl⟩) hw [] rfl rfl rfl rfl hl.1 rfl (Nat.le_of_ble_eq_true rfl) dX6_isEachSortOnce_7 ⟨Nat.zero_le _, Nat.zero_le _⟩ (fun H locs hw => ?_)
  replace hw : Wd (dC, dI) A s.heap H locs ([] : va_W) := hw
  refine lv_if_eq (tgt := 77) hx hb dX6_isEachSortOnce_10 (by decide) (fun b3 => ?_) (fun b3 => ?_)
  · replace hf := it_t hf b3
    refine lv_iconst (v := 0) hx hb dX6_isEachSortOnce_77 (by decide) ?_
    have g4 := bz_nar (gd_l hf)
    replace hf := gd_r hf
    cases hf
    exact endI X hr g4 hlocks rfl hw dX6_isEachSortOnce_78
  · replace hf := it_f hf b3
    refine lv_iload_n hx hb dX6_isEachSortOnce_13 rfl (lv_at hl 2 rfl) ?_
    refine lv_iconst (v := 0) hx hb dX6_isEachSortOnce_14 (by decide) ?_
    refine lv_iload hx hb dX6_isEachSortOnce_15 (lv_at hl 0 rfl) ?_
    obtain ⟨r5, h6, hf⟩ := bd1_ob hf
    refine clSI (As := [.int v1, .int (0 : Int32), .int (3 : Int32)]) (rest := []) X (c_X6_isIn l dC dI cI cJ cZ N v1 (0 : Int32) (3 : Int32) h6) (va_cwS 3 hts gX6_isEachSortOnce_X6_isIn rfl rfl rfl (by decide +kernel) ⟨Nat.le_of_ble_eq_true rfl, Nat.le_of_ble_eq_true rfl⟩) hw [] rfl rfl rfl rfl hl.1 rfl (Nat.le_of_ble_eq_true rfl) dX6_isEachSortOnce_17 ⟨Nat.zero_le _, Nat.zero_le _⟩ (fun H locs hw => ?_)
    replace hw : Wd (dC, dI) A s.heap H locs ([] : va_W) := hw
    refine lv_if_eq (tgt := 77) hx hb dX6_isEachSortOnce_20 (by decide) (fun b7 => ?_) (fun b7 => ?_)
    · replace hf := it_t hf b7
      refine lv_iconst (v := 0) hx hb dX6_isEachSortOnce_77 (by decide) ?_
      have g8 := bz_nar (gd_l hf)
      replace hf := gd_r hf
      cases hf
      exact endI X hr g8 hlocks rfl hw dX6_isEachSortOnce_78
    · replace hf := it_f hf b7
      refine lv_iload_n hx hb dX6_isEachSortOnce_23 rfl (lv_at hl 3 rfl) ?_
      refine lv_iconst (v := 0) hx hb dX6_isEachSortOnce_24 (by decide) ?_
      refine lv_iload hx hb dX6_isEachSortOnce_25 (lv_at hl 0 rfl) ?_
      obtain ⟨r9, h10, hf⟩ := bd1_ob hf
      refine clSI (As := [.int v2, .int (0 : Int32), .int (3 : Int32)]) (rest := []) X (c_X6_isIn l dC dI cI cJ cZ N v2 (0 : Int32) (3 : Int32) h10) (va_cwS 3 hts gX6_isEachSortOnce_X6_isIn rfl rfl rfl (by decide +kernel) ⟨Nat.le_of_ble_eq_true rfl, Nat.le_of_ble_eq_true rfl⟩) hw [] rfl rfl rfl rfl hl.1 rfl (Nat.le_of_ble_eq_true rfl) dX6_isEachSortOnce_27 ⟨Nat.zero_le _, Nat.zero_le _⟩ (fun H locs hw => ?_)
      replace hw : Wd (dC, dI) A s.heap H locs ([] : va_W) := hw
      refine lv_if_eq (tgt := 77) hx hb dX6_isEachSortOnce_30 (by decide) (fun b11 => ?_) (fun b11 => ?_)
      · replace hf := it_t hf b11
        refine lv_iconst (v := 0) hx hb dX6_isEachSortOnce_77 (by decide) ?_
        have g12 := bz_nar (gd_l hf)
        replace hf := gd_r hf
        cases hf
        exact endI X hr g12 hlocks rfl hw dX6_isEachSortOnce_78
      · replace hf := it_f hf b11
        refine lv_iload_n hx hb dX6_isEachSortOnce_33 rfl (lv_at hl 4 rfl) ?_
        refine lv_iconst (v := 0) hx hb dX6_isEachSortOnce_34 (by decide) ?_
        refine lv_iload hx hb dX6_isEachSortOnce_35 (lv_at hl 0 rfl) ?_
        obtain ⟨r13, h14, hf⟩ := bd1_ob hf
        refine clSI (As := [.int v3, .int (0 : Int32), .int (3 : Int32)]) (rest := []) X (c_X6_isIn l dC dI cI cJ cZ N v3 (0 : Int32) (3 : Int32) h14) (va_cwS 3 hts gX6_isEachSortOnce_X6_isIn rfl rfl rfl (by decide +kernel) ⟨Nat.le_of_ble_eq_true rfl, Nat.le_of_ble_eq_true rfl⟩) hw [] rfl rfl rfl rfl hl.1 rfl (Nat.le_of_ble_eq_true rfl) dX6_isEachSortOnce_37 ⟨Nat.zero_le _, Nat.zero_le _⟩ (fun H locs hw => ?_)
        replace hw : Wd (dC, dI) A s.heap H locs ([] : va_W) := hw
        refine lv_if_eq (tgt := 77) hx hb dX6_isEachSortOnce_40 (by decide) (fun b15 => ?_) (fun b15 => ?_)
        · replace hf := it_t hf b15
          refine lv_iconst (v := 0) hx hb dX6_isEachSortOnce_77 (by decide) ?_
          have g16 := bz_nar (gd_l hf)
          replace hf := gd_r hf
          cases hf
          exact endI X hr g16 hlocks rfl hw dX6_isEachSortOnce_78
        · replace hf := it_f hf b15
          refine lv_iload_n hx hb dX6_isEachSortOnce_43 rfl (lv_at hl 1 rfl) ?_
          refine lv_iload_n hx hb dX6_isEachSortOnce_44 rfl (lv_at hl 2 rfl) ?_
          refine lv_icmp_eq (tgt := 77) hx hb dX6_isEachSortOnce_45 (by decide) (fun b17 => ?_) (fun b17 => ?_)
          · replace hf := it_t hf b17
            refine lv_iconst (v := 0) hx hb dX6_isEachSortOnce_77 (by decide) ?_
            have g18 := bz_nar (gd_l hf)
            replace hf := gd_r hf
            cases hf
            exact endI X hr g18 hlocks rfl hw dX6_isEachSortOnce_78
          · replace hf := it_f hf b17
            refine lv_iload_n hx hb dX6_isEachSortOnce_48 rfl (lv_at hl 1 rfl) ?_
            refine lv_iload_n hx hb dX6_isEachSortOnce_49 rfl (lv_at hl 3 rfl) ?_
            refine lv_icmp_eq (tgt := 77) hx hb dX6_isEachSortOnce_50 (by decide) (fun b19 => ?_) (fun b19 => ?_)
            · replace hf := it_t hf b19
              refine lv_iconst (v := 0) hx hb dX6_isEachSortOnce_77 (by decide) ?_
              have g20 := bz_nar (gd_l hf)
              replace hf := gd_r hf
              cases hf
              exact endI X hr g20 hlocks rfl hw dX6_isEachSortOnce_78
            · replace hf := it_f hf b19
              refine lv_iload_n hx hb dX6_isEachSortOnce_53 rfl (lv_at hl 1 rfl) ?_
              refine lv_iload_n hx hb dX6_isEachSortOnce_54 rfl (lv_at hl 4 rfl) ?_
              refine lv_icmp_eq (tgt := 77) hx hb dX6_isEachSortOnce_55 (by decide) (fun b21 => ?_) (fun b21 => ?_)
              · replace hf := it_t hf b21
                refine lv_iconst (v := 0) hx hb dX6_isEachSortOnce_77 (by decide) ?_
                have g22 := bz_nar (gd_l hf)
                replace hf := gd_r hf
                cases hf
                exact endI X hr g22 hlocks rfl hw dX6_isEachSortOnce_78
              · replace hf := it_f hf b21
                refine lv_iload_n hx hb dX6_isEachSortOnce_58 rfl (lv_at hl 2 rfl) ?_
                refine lv_iload_n hx hb dX6_isEachSortOnce_59 rfl (lv_at hl 3 rfl) ?_
                refine lv_icmp_eq (tgt := 77) hx hb dX6_isEachSortOnce_60 (by decide) (fun b23 => ?_) (fun b23 => ?_)
                · replace hf := it_t hf b23
                  refine lv_iconst (v := 0) hx hb dX6_isEachSortOnce_77 (by decide) ?_
                  have g24 := bz_nar (gd_l hf)
                  replace hf := gd_r hf
                  cases hf
                  exact endI X hr g24 hlocks rfl hw dX6_isEachSortOnce_78
                · replace hf := it_f hf b23
                  refine lv_iload_n hx hb dX6_isEachSortOnce_63 rfl (lv_at hl 2 rfl) ?_
                  refine lv_iload_n hx hb dX6_isEachSortOnce_64 rfl (lv_at hl 4 rfl) ?_
                  refine lv_icmp_eq (tgt := 77) hx hb dX6_isEachSortOnce_65 (by decide) (fun b25 => ?_) (fun b25 => ?_)
                  · replace hf := it_t hf b25
                    refine lv_iconst (v := 0) hx hb dX6_isEachSortOnce_77 (by decide) ?_
                    have g26 := bz_nar (gd_l hf)
                    replace hf := gd_r hf
                    cases hf
                    exact endI X hr g26 hlocks rfl hw dX6_isEachSortOnce_78
                  · replace hf := it_f hf b25
                    refine lv_iload_n hx hb dX6_isEachSortOnce_68 rfl (lv_at hl 3 rfl) ?_
                    refine lv_iload_n hx hb dX6_isEachSortOnce_69 rfl (lv_at hl 4 rfl) ?_
                    refine lv_icmp_eq (tgt := 77) hx hb dX6_isEachSortOnce_70 (by decide) (fun b27 => ?_) (fun b27 => ?_)
                    · replace hf := it_t hf b27
                      refine lv_iconst (v := 0) hx hb dX6_isEachSortOnce_77 (by decide) ?_
                      have g28 := bz_nar (gd_l hf)
                      replace hf := gd_r hf
                      cases hf
                      exact endI X hr g28 hlocks rfl hw dX6_isEachSortOnce_78
                    · replace hf := it_f hf b27
                      refine lv_iconst (v := 1) hx hb dX6_isEachSortOnce_73 (by decide) ?_
                      refine lv_goto (tgt := 78) hx hb dX6_isEachSortOnce_74 (by decide) ?_
                      have g29 := bz_nar (gd_l hf)
                      replace hf := gd_r hf
                      cases hf
                      exact endI X hr g29 hlocks rfl hw dX6_isEachSortOnce_78
def rm_J6_compare_7cf53 : Room := { frames := 0, cells := 0, slots := 0, locals := 0 }
set_option maxHeartbeats 4000000 in
set_option maxRecDepth 100000 in
theorem c_J6_compare_7cf53 (l : Launch) (dC : Nat → ClassId) (dI : Nat → Nat → Nat) (cI cJ cZ : ClassId)  (N : Nat)  (v0 : Int32) (v1 : Int32) {r : Int32} (hf : f_J6_compare_7cf53 N  v0 v1 = some r) :
    CtI l yJ6_compare_7cf53 wsJ6_compare_7cf53 rm_J6_compare_7cf53 (dC, dI) (tyl cI cJ cZ) [.int v0, .int v1] ([] : va_W) ([] : va_W) r := by
  refine startI (cc := cJ6_compare_7cf53) (maxL := 2) (rt := (some .int)) (by decide +kernel) rfl (Nat.le_of_ble_eq_true rfl) ?_
  intro p e s m below meth c A ls X hr hlocks hw hl
  replace X : Cx p m c cJ6_compare_7cf53 2 s _ wsJ6_compare_7cf53 RJ6 (dC, dI) (tyl cI cJ cZ) A := X
  replace hl : lv_has ls 2 [(0, .int v0), (1, .int v1)] := hl
  obtain ⟨hx, hb, hml, hown, hts⟩ := X.1
  have hK := X.2.1
  have hN := X.2.2.2
  unfold f_J6_compare_7cf53 at hf
  refine lv_iload_n hx hb dJ6_compare_7cf53_0 rfl (lv_at hl 0 rfl) ?_
  refine lv_iload_n hx hb dJ6_compare_7cf53_1 rfl (lv_at hl 1 rfl) ?_
  refine lv_icmp_ge (tgt := 9) hx hb dJ6_compare_7cf53_2 (by decide) (fun b1 => ?_) (fun b1 => ?_)
  · replace hf := it_t hf b1
    refine lv_iload_n hx hb dJ6_compare_7cf53_9 rfl (lv_at hl 0 rfl) ?_
    refine lv_iload_n hx hb dJ6_compare_7cf53_10 rfl (lv_at hl 1 rfl) ?_
    refine lv_icmp_ne (tgt := 18) hx hb dJ6_compare_7cf53_11 (by decide) (fun b2 => ?_) (fun b2 => ?_)
    · replace hf := it_f hf b2
      refine lv_iconst (v := 1) hx hb dJ6_compare_7cf53_18 (by decide) ?_
      cases hf
      exact endI X hr rfl hlocks rfl hw dJ6_compare_7cf53_19
    · replace hf := it_t hf b2
      refine lv_iconst (v := 0) hx hb dJ6_compare_7cf53_14 (by decide) ?_
      refine lv_goto (tgt := 19) hx hb dJ6_compare_7cf53_15 (by decide) ?_
      cases hf
      exact endI X hr rfl hlocks rfl hw dJ6_compare_7cf53_19
  · replace hf := it_f hf b1
    refine lv_iconst (v := (-1)) hx hb dJ6_compare_7cf53_5 (by decide) ?_
    refine lv_goto (tgt := 19) hx hb dJ6_compare_7cf53_6 (by decide) ?_
    cases hf
    exact endI X hr rfl hlocks rfl hw dJ6_compare_7cf53_19
def rm_X4_rowOf : Room := { frames := 0, cells := 0, slots := 0, locals := 0 }
set_option maxRecDepth 20000 in
theorem m_X4_rowOf_0 : Cond.constantLong RX4 40 (400) ∈ wsX4_rowOf := by decide +kernel
set_option maxHeartbeats 4000000 in
set_option maxRecDepth 100000 in
theorem c_X4_rowOf (l : Launch) (dC : Nat → ClassId) (dI : Nat → Nat → Nat) (cI cJ cZ : ClassId)  (N : Nat)  (v0 : Int64) {r : Int32} (hf : f_X4_rowOf N  v0 = some r) :
    CtI l yX4_rowOf wsX4_rowOf rm_X4_rowOf (dC, dI) (tyl cI cJ cZ) [.long v0] ([] : va_W) ([] : va_W) r := by
  refine startI (cc := cX4_rowOf) (maxL := 2) (rt := (some .int)) (by decide +kernel) rfl (Nat.le_of_ble_eq_true rfl) ?_
  intro p e s m below meth c A ls X hr hlocks hw hl
  replace X : Cx p m c cX4_rowOf 2 s _ wsX4_rowOf RX4 (dC, dI) (tyl cI cJ cZ) A := X
  replace hl : lv_has ls 2 [(0, .long v0)] := hl
  obtain ⟨hx, hb, hml, hown, hts⟩ := X.1
  have hK := X.2.1
  have hN := X.2.2.2
  unfold f_X4_rowOf at hf
  refine lv_lload_n hx hb dX4_rowOf_0 rfl (lv_at hl 0 rfl) ?_
  refine lv_ldc2 (v := 400) hx hb hown (hts _ m_X4_rowOf_0) dX4_rowOf_1 ?_
  refine lv_lrem hx hb dX4_rowOf_4 (by decide) ?_
  refine lv_l2i hx hb dX4_rowOf_5 rfl ?_
  cases hf
  exact endI X hr rfl hlocks rfl hw dX4_rowOf_6
def rm_X3_sized : Room := { frames := 0, cells := 0, slots := 0, locals := 0 }
set_option maxRecDepth 20000 in
theorem m_X3_sized_0 : Cond.constantLong RX3 79 (799) ∈ wsX3_sized := by decide +kernel
set_option maxHeartbeats 4000000 in
set_option maxRecDepth 100000 in
theorem c_X3_sized (l : Launch) (dC : Nat → ClassId) (dI : Nat → Nat → Nat) (cI cJ cZ : ClassId)  (N : Nat)  (v0 : Int32) (v1 : Int32) {r : Int64} (hf : f_X3_sized N  v0 v1 = some r) :
    CtL l yX3_sized wsX3_sized rm_X3_sized (dC, dI) (tyl cI cJ cZ) [.int v0, .int v1] ([] : va_W) ([] : va_W) r := by
  refine startL (cc := cX3_sized) (maxL := 2) (rt := (some .long)) (by decide +kernel) rfl (Nat.le_of_ble_eq_true rfl) ?_
  intro p e s m below meth c A ls X hr hlocks hw hl
  replace X : Cx p m c cX3_sized 2 s _ wsX3_sized RX3 (dC, dI) (tyl cI cJ cZ) A := X
  replace hl : lv_has ls 2 [(0, .int v0), (1, .int v1)] := hl
  obtain ⟨hx, hb, hml, hown, hts⟩ := X.1
  have hK := X.2.1
  have hN := X.2.2.2
  unfold f_X3_sized at hf
  refine lv_iload_n hx hb dX3_sized_0 rfl (lv_at hl 0 rfl) ?_
  refine lv_i2l hx hb dX3_sized_1 rfl ?_
  refine lv_ldc2 (v := 799) hx hb hown (hts _ m_X3_sized_0) dX3_sized_2 ?_
  refine lv_lmul hx hb dX3_sized_5 ?_
  refine lv_iload_n hx hb dX3_sized_6 rfl (lv_at hl 1 rfl) ?_
  refine lv_i2l hx hb dX3_sized_7 rfl ?_
  refine lv_ladd hx hb dX3_sized_8 ?_
  cases hf
  exact endL X hr hlocks rfl hw dX3_sized_9
def rm_X3_waysOf : Room := { frames := 0, cells := 0, slots := 0, locals := 0 }
set_option maxHeartbeats 4000000 in
set_option maxRecDepth 100000 in
theorem c_X3_waysOf (l : Launch) (dC : Nat → ClassId) (dI : Nat → Nat → Nat) (cI cJ cZ : ClassId)  (N : Nat)  (v0 : Int32) (v1 : Int32) (v2 : Int32) {r : Int32} (hf : f_X3_waysOf N  v0 v1 v2 = some r) :
    CtI l yX3_waysOf wsX3_waysOf rm_X3_waysOf (dC, dI) (tyl cI cJ cZ) [.int v0, .int v1, .int v2] ([] : va_W) ([] : va_W) r := by
  refine startI (cc := cX3_waysOf) (maxL := 3) (rt := (some .int)) (by decide +kernel) rfl (Nat.le_of_ble_eq_true rfl) ?_
  intro p e s m below meth c A ls X hr hlocks hw hl
  replace X : Cx p m c cX3_waysOf 3 s _ wsX3_waysOf RX3 (dC, dI) (tyl cI cJ cZ) A := X
  replace hl : lv_has ls 3 [(0, .int v0), (1, .int v1), (2, .int v2)] := hl
  obtain ⟨hx, hb, hml, hown, hts⟩ := X.1
  have hK := X.2.1
  have hN := X.2.2.2
  unfold f_X3_waysOf at hf
  refine lv_iload_n hx hb dX3_waysOf_0 rfl (lv_at hl 0 rfl) ?_
  refine lv_if_gt (tgt := 9) hx hb dX3_waysOf_1 (by decide) (fun b1 => ?_) (fun b1 => ?_)
  · replace hf := it_t hf b1
    refine lv_iload_n hx hb dX3_waysOf_9 rfl (lv_at hl 2 rfl) ?_
    cases hf
    exact endI X hr rfl hlocks rfl hw dX3_waysOf_10
  · replace hf := it_f hf b1
    refine lv_iload_n hx hb dX3_waysOf_4 rfl (lv_at hl 2 rfl) ?_
    refine lv_iconst (v := 2) hx hb dX3_waysOf_5 (by decide) ?_
    refine lv_icmp_ge (tgt := 11) hx hb dX3_waysOf_6 (by decide) (fun b2 => ?_) (fun b2 => ?_)
    · replace hf := it_t hf b2
      refine lv_iconst (v := 2) hx hb dX3_waysOf_11 (by decide) ?_
      refine lv_iload_n hx hb dX3_waysOf_12 rfl (lv_at hl 1 rfl) ?_
      refine lv_iconst (v := 2) hx hb dX3_waysOf_13 (by decide) ?_
      refine lv_isub hx hb dX3_waysOf_14 ?_
      refine lv_iload_n hx hb dX3_waysOf_15 rfl (lv_at hl 2 rfl) ?_
      refine lv_iconst (v := 1) hx hb dX3_waysOf_16 (by decide) ?_
      refine lv_isub hx hb dX3_waysOf_17 ?_
      have g3 := nz_ne (gd_l hf)
      replace hf := gd_r hf
      refine lv_irem hx hb dX3_waysOf_18 g3 ?_
      refine lv_iadd hx hb dX3_waysOf_19 ?_
      cases hf
      exact endI X hr rfl hlocks rfl hw dX3_waysOf_20
    · replace hf := it_f hf b2
      refine lv_iload_n hx hb dX3_waysOf_9 rfl (lv_at hl 2 rfl) ?_
      cases hf
      exact endI X hr rfl hlocks rfl hw dX3_waysOf_10
def rm_X3_mergesOf : Room := { frames := 1, cells := 0, slots := 0, locals := 22 }
set_option maxHeartbeats 4000000 in
set_option maxRecDepth 100000 in
theorem c_X3_mergesOf (l : Launch) (dC : Nat → ClassId) (dI : Nat → Nat → Nat) (cI cJ cZ : ClassId)  (N : Nat)  (v0 : Int32) (v1 : Int32) {r : Int32} (hf : f_X3_mergesOf N  v0 v1 = some r) :
    CtI l yX3_mergesOf wsX3_mergesOf rm_X3_mergesOf (dC, dI) (tyl cI cJ cZ) [.int v0, .int v1] ([] : va_W) ([] : va_W) r := by
  refine startI (cc := cX3_mergesOf) (maxL := 2) (rt := (some .int)) (by decide +kernel) rfl (Nat.le_of_ble_eq_true rfl) ?_
  intro p e s m below meth c A ls X hr hlocks hw hl
  replace X : Cx p m c cX3_mergesOf 2 s _ wsX3_mergesOf RX3 (dC, dI) (tyl cI cJ cZ) A := X
  replace hl : lv_has ls 2 [(0, .int v0), (1, .int v1)] := hl
  obtain ⟨hx, hb, hml, hown, hts⟩ := X.1
  have hK := X.2.1
  have hN := X.2.2.2
  unfold f_X3_mergesOf at hf
  refine lv_iload_n hx hb dX3_mergesOf_0 rfl (lv_at hl 0 rfl) ?_
  refine lv_iconst (v := 2) hx hb dX3_mergesOf_1 (by decide) ?_
  refine lv_icmp_lt (tgt := 10) hx hb dX3_mergesOf_2 (by decide) (fun b1 => ?_) (fun b1 => ?_)
  · replace hf := it_t hf b1
    refine lv_iconst (v := 0) hx hb dX3_mergesOf_10 (by decide) ?_
    cases hf
    exact endI X hr rfl hlocks rfl hw dX3_mergesOf_11
  · replace hf := it_f hf b1
    refine lv_iload_n hx hb dX3_mergesOf_5 rfl (lv_at hl 1 rfl) ?_
    refine lv_iconst (v := 2) hx hb dX3_mergesOf_6 (by decide) ?_
    refine lv_icmp_ge (tgt := 12) hx hb dX3_mergesOf_7 (by decide) (fun b2 => ?_) (fun b2 => ?_)
    · replace hf := it_t hf b2
      refine lv_iconst (v := 1) hx hb dX3_mergesOf_12 (by decide) ?_
      refine lv_iload_n hx hb dX3_mergesOf_13 rfl (lv_at hl 0 rfl) ?_
      refine lv_iconst (v := 0) hx hb dX3_mergesOf_14 (by decide) ?_
      refine lv_iload_n hx hb dX3_mergesOf_15 rfl (lv_at hl 0 rfl) ?_
      refine lv_iload_n hx hb dX3_mergesOf_16 rfl (lv_at hl 1 rfl) ?_
      obtain ⟨r3, h4, hf⟩ := bd1_ob hf
      refine clSI (As := [.int (0 : Int32), .int v0, .int v1]) (rest := [.int v0, .int 1]) X (c_X3_waysOf l dC dI cI cJ cZ N (0 : Int32) v0 v1 h4) (va_cwS 3 hts gX3_mergesOf_X3_waysOf rfl rfl rfl (by decide +kernel) ⟨Nat.le_of_ble_eq_true rfl, Nat.le_of_ble_eq_true rfl⟩) hw [] rfl rfl rfl rfl hl.1 rfl (Nat.le_of_ble_eq_true rfl) dX3_mergesOf_17 ⟨Nat.zero_le _, Nat.zero_le _⟩ (fun H locs hw => ?_)
      replace hw : Wd (dC, dI) A s.heap H locs ([] : va_W) := hw
      refine lv_isub hx hb dX3_mergesOf_20 ?_
      refine lv_iload_n hx hb dX3_mergesOf_21 rfl (lv_at hl 1 rfl) ?_
      refine lv_iconst (v := 1) hx hb dX3_mergesOf_22 (by decide) ?_
      refine lv_isub hx hb dX3_mergesOf_23 ?_
      have g5 := nz_ne (gd_l hf)
      replace hf := gd_r hf
      refine lv_idiv hx hb dX3_mergesOf_24 g5 ?_
      refine lv_iadd hx hb dX3_mergesOf_25 ?_
      cases hf
      exact endI X hr rfl hlocks rfl hw dX3_mergesOf_26
    · replace hf := it_f hf b2
      refine lv_iconst (v := 0) hx hb dX3_mergesOf_10 (by decide) ?_
      cases hf
      exact endI X hr rfl hlocks rfl hw dX3_mergesOf_11
def rm_X6_isHost : Room := { frames := 1, cells := 0, slots := 0, locals := 22 }
set_option maxHeartbeats 4000000 in
set_option maxRecDepth 100000 in
theorem c_X6_isHost (l : Launch) (dC : Nat → ClassId) (dI : Nat → Nat → Nat) (cI cJ cZ : ClassId)  (N : Nat)  (v0 : Int32) {r : Int32} (hf : f_X6_isHost N  v0 = some r) :
    CtI l yX6_isHost wsX6_isHost rm_X6_isHost (dC, dI) (tyl cI cJ cZ) [.int v0] ([] : va_W) ([] : va_W) r := by
  refine startI (cc := cX6_isHost) (maxL := 1) (rt := (some .boolean)) (by decide +kernel) rfl (Nat.le_of_ble_eq_true rfl) ?_
  intro p e s m below meth c A ls X hr hlocks hw hl
  replace X : Cx p m c cX6_isHost 1 s _ wsX6_isHost RX6 (dC, dI) (tyl cI cJ cZ) A := X
  replace hl : lv_has ls 1 [(0, .int v0)] := hl
  obtain ⟨hx, hb, hml, hown, hts⟩ := X.1
  have hK := X.2.1
  have hN := X.2.2.2
  unfold f_X6_isHost at hf
  refine lv_iload_n hx hb dX6_isHost_0 rfl (lv_at hl 0 rfl) ?_
  refine lv_iconst (v := 0) hx hb dX6_isHost_1 (by decide) ?_
  refine lv_bipush (v := 7) hx hb dX6_isHost_2 (by decide) ?_
  obtain ⟨r1, h2, hf⟩ := bd1_ob hf
  refine clSI (As := [.int v0, .int (0 : Int32), .int (7 : Int32)]) (rest := []) X (c_X6_isIn l dC dI cI cJ cZ N v0 (0 : Int32) (7 : Int32) h2) (va_cwS 3 hts gX6_isHost_X6_isIn rfl rfl rfl (by decide +kernel) ⟨Nat.le_of_ble_eq_true rfl, Nat.le_of_ble_eq_true rfl⟩) hw [] rfl rfl rfl rfl hl.1 rfl (Nat.le_of_ble_eq_true rfl) dX6_isHost_4 ⟨Nat.zero_le _, Nat.zero_le _⟩ (fun H locs hw => ?_)
  replace hw : Wd (dC, dI) A s.heap H locs ([] : va_W) := hw
  have g3 := bz_nar (gd_l hf)
  replace hf := gd_r hf
  cases hf
  exact endI X hr g3 hlocks rfl hw dX6_isHost_7
def rm_X7_is : Room := { frames := 0, cells := 0, slots := 0, locals := 0 }
set_option maxHeartbeats 4000000 in
set_option maxRecDepth 100000 in
theorem c_X7_is (l : Launch) (dC : Nat → ClassId) (dI : Nat → Nat → Nat) (cI cJ cZ : ClassId)  (N : Nat)  (v0 : Int32) (v1 : Int32) (v2 : Int32) {r : Int32} (hf : f_X7_is N  v0 v1 v2 = some r) :
    CtI l yX7_is wsX7_is rm_X7_is (dC, dI) (tyl cI cJ cZ) [.int v0, .int v1, .int v2] ([] : va_W) ([] : va_W) r := by
  refine startI (cc := cX7_is) (maxL := 3) (rt := (some .boolean)) (by decide +kernel) rfl (Nat.le_of_ble_eq_true rfl) ?_
  intro p e s m below meth c A ls X hr hlocks hw hl
  replace X : Cx p m c cX7_is 3 s _ wsX7_is RX7 (dC, dI) (tyl cI cJ cZ) A := X
  replace hl : lv_has ls 3 [(0, .int v0), (1, .int v1), (2, .int v2)] := hl
  obtain ⟨hx, hb, hml, hown, hts⟩ := X.1
  have hK := X.2.1
  have hN := X.2.2.2
  unfold f_X7_is at hf
  refine lv_iload_n hx hb dX7_is_0 rfl (lv_at hl 0 rfl) ?_
  refine lv_iload_n hx hb dX7_is_1 rfl (lv_at hl 1 rfl) ?_
  refine lv_icmp_lt (tgt := 14) hx hb dX7_is_2 (by decide) (fun b1 => ?_) (fun b1 => ?_)
  · replace hf := it_t hf b1
    refine lv_iconst (v := 0) hx hb dX7_is_14 (by decide) ?_
    have g2 := bz_nar (gd_l hf)
    replace hf := gd_r hf
    cases hf
    exact endI X hr g2 hlocks rfl hw dX7_is_15
  · replace hf := it_f hf b1
    refine lv_iload_n hx hb dX7_is_5 rfl (lv_at hl 0 rfl) ?_
    refine lv_iload_n hx hb dX7_is_6 rfl (lv_at hl 2 rfl) ?_
    refine lv_icmp_gt (tgt := 14) hx hb dX7_is_7 (by decide) (fun b3 => ?_) (fun b3 => ?_)
    · replace hf := it_t hf b3
      refine lv_iconst (v := 0) hx hb dX7_is_14 (by decide) ?_
      have g4 := bz_nar (gd_l hf)
      replace hf := gd_r hf
      cases hf
      exact endI X hr g4 hlocks rfl hw dX7_is_15
    · replace hf := it_f hf b3
      refine lv_iconst (v := 1) hx hb dX7_is_10 (by decide) ?_
      refine lv_goto (tgt := 15) hx hb dX7_is_11 (by decide) ?_
      have g5 := bz_nar (gd_l hf)
      replace hf := gd_r hf
      cases hf
      exact endI X hr g5 hlocks rfl hw dX7_is_15
def rm_X7_isHost : Room := { frames := 0, cells := 0, slots := 0, locals := 0 }
set_option maxHeartbeats 4000000 in
set_option maxRecDepth 100000 in
theorem c_X7_isHost (l : Launch) (dC : Nat → ClassId) (dI : Nat → Nat → Nat) (cI cJ cZ : ClassId)  (N : Nat)  (v0 : Int32) {r : Int32} (hf : f_X7_isHost N  v0 = some r) :
    CtI l yX7_isHost wsX7_isHost rm_X7_isHost (dC, dI) (tyl cI cJ cZ) [.int v0] ([] : va_W) ([] : va_W) r := by
  refine startI (cc := cX7_isHost) (maxL := 1) (rt := (some .boolean)) (by decide +kernel) rfl (Nat.le_of_ble_eq_true rfl) ?_
  intro p e s m below meth c A ls X hr hlocks hw hl
  replace X : Cx p m c cX7_isHost 1 s _ wsX7_isHost RX7 (dC, dI) (tyl cI cJ cZ) A := X
  replace hl : lv_has ls 1 [(0, .int v0)] := hl
  obtain ⟨hx, hb, hml, hown, hts⟩ := X.1
  have hK := X.2.1
  have hN := X.2.2.2
  unfold f_X7_isHost at hf
  refine lv_iload_n hx hb dX7_isHost_0 rfl (lv_at hl 0 rfl) ?_
  refine lv_if_lt (tgt := 14) hx hb dX7_isHost_1 (by decide) (fun b1 => ?_) (fun b1 => ?_)
  · replace hf := it_t hf b1
    refine lv_iconst (v := 0) hx hb dX7_isHost_14 (by decide) ?_
    have g2 := bz_nar (gd_l hf)
    replace hf := gd_r hf
    cases hf
    exact endI X hr g2 hlocks rfl hw dX7_isHost_15
  · replace hf := it_f hf b1
    refine lv_iload_n hx hb dX7_isHost_4 rfl (lv_at hl 0 rfl) ?_
    refine lv_bipush (v := 8) hx hb dX7_isHost_5 (by decide) ?_
    refine lv_icmp_ge (tgt := 14) hx hb dX7_isHost_7 (by decide) (fun b3 => ?_) (fun b3 => ?_)
    · replace hf := it_t hf b3
      refine lv_iconst (v := 0) hx hb dX7_isHost_14 (by decide) ?_
      have g4 := bz_nar (gd_l hf)
      replace hf := gd_r hf
      cases hf
      exact endI X hr g4 hlocks rfl hw dX7_isHost_15
    · replace hf := it_f hf b3
      refine lv_iconst (v := 1) hx hb dX7_isHost_10 (by decide) ?_
      refine lv_goto (tgt := 15) hx hb dX7_isHost_11 (by decide) ?_
      have g5 := bz_nar (gd_l hf)
      replace hf := gd_r hf
      cases hf
      exact endI X hr g5 hlocks rfl hw dX7_isHost_15
