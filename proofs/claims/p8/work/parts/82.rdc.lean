set_option maxHeartbeats 1000000 in
theorem s_X0_readClause {μ : gm_M} {a0 : Nat} (h : RI a0 μ)  : gwI (f_X0_readClause a0 μ) (fun x m => RR a0 μ m ∧ (x.toInt = 0 ∨ x.toInt = 1)) := by
  refine gwI_of ?_
  unfold f_X0_readClause
  have l0 : (0 : Int32).toInt = 0 := rfl
  have l1 : (1 : Int32).toInt = 1 := rfl
  have l32 : (32 : Int32).toInt = 32 := rfl
  have l114 : (114 : Int32).toInt = 114 := rfl
  have l115 : (115 : Int32).toInt = 115 := rfl
  have l116 : (116 : Int32).toInt = 116 := rfl
  have l119 : (119 : Int32).toInt = 119 := rfl
  have k0 := RR.refl h
  refine gw_if k0.ri.t ?_
  refine gw_bI (s_X0_next k0.ri ) (fun x1 m1 ⟨z1, f1⟩ => ?_)
  replace z1 := z1.symm
  subst z1
  have z8_1 : (μ.2.1 a0 8).toInt = (μ.2.1 a0 8).toInt := k0.s8
  refine gw_ne (fun h6_2 => ?_) (fun h6_2 => ?_)
  ·
    refine gw_if k0.ri.t ?_
    refine gw_bI (s_X0_take k0.ri (by omega)) (fun x3 m3 ⟨g3, f3⟩ => ?_)
    have kk3 := k0.trans g3
    refine gw_ne (fun h37_4 => ?_) (fun h37_4 => ?_)
    ·
      refine gw_if kk3.ri.t ?_
      refine gw_bI (s_X0_next kk3.ri ) (fun x5 m5 ⟨z5, f5⟩ => ?_)
      replace z5 := z5.symm
      subst z5
      have z8_5 : (m3.2.1 a0 8).toInt = (μ.2.1 a0 8).toInt := kk3.s8
      refine gw_ne (fun h48_6 => ?_) (fun h48_6 => ?_)
      ·
        refine gw_if kk3.ri.t ?_
        refine gw_bI (s_X0_take kk3.ri (by omega)) (fun x7 m7 ⟨g7, f7⟩ => ?_)
        have kk7 := kk3.trans g7
        refine gw_ne (fun h79_8 => ?_) (fun h79_8 => ?_)
        ·
          refine gw_if kk7.ri.t ?_
          refine gw_bI (s_X0_next kk7.ri ) (fun x9 m9 ⟨z9, f9⟩ => ?_)
          replace z9 := z9.symm
          subst z9
          have z8_9 : (m7.2.1 a0 8).toInt = (μ.2.1 a0 8).toInt := kk7.s8
          refine gw_j (fun s10 => (s10.toInt = 0 ∨ s10.toInt = 1)) (fun s10 u12 => ?_) (fun j11 hj11 => ?_)
          ·
            refine gw_j (fun s13 => (gm_isS s13)) (fun s13 u15 => ?_) (fun j14 hj14 => ?_)
            ·
              refine gw_if kk7.ri.t ?_
              refine gw_bI (s_X0_readWordAndNumber kk7.ri (by assumption)) (fun x16 m16 g16 => ?_)
              have kk16 := kk7.trans g16
              refine gw_lt (fun h116_17 => ?_) (fun h116_17 => ?_)
              ·
                refine gw_z Iff.rfl (by omega) (gq_I ⟨kk16, by omega⟩)
              ·
                refine gw_if kk16.ri.t ?_
                refine gw_bI (s_X0_take kk16.ri (by omega)) (fun x18 m18 ⟨g18, f18⟩ => ?_)
                have kk18 := kk16.trans g18
                refine gw_eq (fun h125_19 => ?_) (fun h125_19 => ?_)
                ·
                  refine gw_z Iff.rfl (by omega) (gq_I ⟨kk18, by omega⟩)
                ·
                  refine gw_if kk18.ri.t ?_
                  refine gw_bI (s_X0_readEither kk18.ri (by omega)) (fun x20 m20 ⟨g20, f20⟩ => ?_)
                  have kk20 := kk18.trans g20
                  refine gw_ne (fun h133_21 => ?_) (fun h133_21 => ?_)
                  ·
                    refine gw_j (fun s22 => True) (fun s22 _ => ?_) (fun j23 hj23 => ?_)
                    ·
                      refine gw_if kk20.ri.t ?_
                      refine gw_bV (s_X0_addChange kk20.ri ) (fun m24 g24 => ?_)
                      have kk24 := kk20.trans g24
                      refine gw_z Iff.rfl (by omega) (gq_I ⟨kk24, by omega⟩)
                    ·
                      refine gw_eq (fun h140_25 => ?_) (fun h140_25 => ?_)
                      ·
                        exact hj23 _ trivial
                      ·
                        exact hj23 _ trivial
                  ·
                    refine gw_z Iff.rfl (by omega) (gq_I ⟨kk20, by omega⟩)
            ·
              refine gw_eq (fun h101_26 => ?_) (fun h101_26 => ?_)
              ·
                exact hj14 _ (by show gm_isS (4 : UInt32); decide)
              ·
                exact hj14 _ (by show gm_isS (3 : UInt32); decide)
          ·
            refine gw_ne (fun h90_27 => ?_) (fun h90_27 => ?_)
            ·
              exact hj11 _ (by show (0 : Int32).toInt = 0 ∨ (0 : Int32).toInt = 1; omega)
            ·
              exact hj11 _ (by show (1 : Int32).toInt = 0 ∨ (1 : Int32).toInt = 1; omega)
        ·
          refine gw_z Iff.rfl (by omega) (gq_I ⟨kk7, by omega⟩)
      ·
        refine gw_if kk3.ri.t ?_
        refine gw_bI (s_X0_readWordAndNumber kk3.ri (by decide)) (fun x28 m28 g28 => ?_)
        have kk28 := kk3.trans g28
        refine gw_pI kk28.ri.tc (fun m29 em29 => ?_)
        have km29 := kk28.w em29 (by decide) (by intro q; exact absurd q (by decide)) (by intro q; exact absurd q (by decide)) (by intro q; exact absurd q (by decide))
        refine gw_lt (fun h64_30 => ?_) (fun h64_30 => ?_)
        ·
          refine gw_z Iff.rfl (by omega) (gq_I ⟨km29, by omega⟩)
        ·
          refine gw_z Iff.rfl (by omega) (gq_I ⟨km29, by omega⟩)
    ·
      refine gw_z Iff.rfl (by omega) (gq_I ⟨kk3, by omega⟩)
  ·
    refine gw_if k0.ri.t ?_
    refine gw_bI (s_X0_readWordAndNumber k0.ri (by decide)) (fun x31 m31 g31 => ?_)
    have kk31 := k0.trans g31
    refine gw_pI kk31.ri.tc (fun m32 em32 => ?_)
    have km32 := kk31.w em32 (by decide) (by intro q; exact absurd q (by decide)) (by intro q; exact absurd q (by decide)) (by intro q; exact absurd q (by decide))
    refine gw_lt (fun h22_33 => ?_) (fun h22_33 => ?_)
    ·
      refine gw_z Iff.rfl (by omega) (gq_I ⟨km32, by omega⟩)
    ·
      refine gw_z Iff.rfl (by omega) (gq_I ⟨km32, by omega⟩)
