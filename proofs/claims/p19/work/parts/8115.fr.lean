theorem LI_Fr {v : Bool} {m1 m2 : List va_E} (h : LI v m1) (hH : as_HI (shf v) m2) (hf : as_Fr (shf v) m1 m2) : LI v m2 := by
  refine LI_elim h (fun ki ln bt rl cp cs ct cv rr dr ja ea ma a1 a2 a3 a4 a5 a6 a7 a8 jb eb mb b1 b2 b3 b4 b5 b6 b7 b8 re fl g1 g2 g3 g4 g5 rt la rs rg pd du ds me tt gr su gp mk rf m1 m2 m3 m4 m5 mr mf n1 n2 n3 n4 n5 nr nf th tr db sn dm sm ty nx tk pl va fa lr ri s kp ik tn de sd dd sr tx pa e hh => ?_)
  obtain ⟨hF, hX, hK, ⟨et, hl⟩, hRo, hRo2, hLG, hI0, hI1, hik, htt, hmk⟩ := hh
  subst e
  refine FH_elim (mk := mk) (tr := tr) hH ((stf_42_1 hf).trans rfl) ((stf_56_1 hf).trans rfl) (fun kiq lnq btq rlq cpq csq ctq cvq rrq drq jaq eaq maq a1q a2q a3q a4q a5q a6q a7q a8q jbq ebq mbq b1q b2q b3q b4q b5q b6q b7q b8q req flq g1q g2q g3q g4q g5q rtq laq rsq rgq pdq duq dsq meq ttq grq suq gpq rfq m1q m2q m3q m4q m5q mrq mfq n1q n2q n3q n4q n5q nrq nfq thq dbq snq dmq smq tyq nxq tkq plq vaq faq lrq riq sq kpq ikq tnq deq sdq ddq srq txq paq e hFq => ?_)
  subst e
  have fki : Int32.ofInt kiq = Int32.ofInt ki := iv_i (stf_0_10 hf)
  have fln : Int32.ofInt lnq = Int32.ofInt ln := iv_i (stf_1_1 hf)
  have fea : Int32.ofInt eaq = Int32.ofInt ea := iv_i (stf_5_1 hf)
  have fma : Int32.ofInt maq = Int32.ofInt ma := iv_i (stf_5_2 hf)
  have feb : Int32.ofInt ebq = Int32.ofInt eb := iv_i (stf_14_1 hf)
  have fmb : Int32.ofInt mbq = Int32.ofInt mb := iv_i (stf_14_2 hf)
  have fre : Int32.ofInt req = Int32.ofInt re := iv_i (stf_23_5 hf)
  have ffl : Int32.ofInt flq = Int32.ofInt fl := iv_i (stf_23_6 hf)
  have fmr : Int32.ofInt mrq = Int32.ofInt mr := iv_i (stf_44_5 hf)
  have fmf : Int32.ofInt mfq = Int32.ofInt mf := iv_i (stf_44_6 hf)
  have fnr : Int32.ofInt nrq = Int32.ofInt nr := iv_i (stf_50_5 hf)
  have fnf : Int32.ofInt nfq = Int32.ofInt nf := iv_i (stf_50_6 hf)
  have fdb : Int32.ofInt dbq = Int32.ofInt db := iv_i (stf_56_6 hf)
  have fsn : Int32.ofInt snq = Int32.ofInt sn := iv_i (stf_56_7 hf)
  have fty : Int32.ofInt tyq = Int32.ofInt ty := iv_i (stf_56_15 hf)
  have sbt : ∀ j, j < 400 → btq j = bt j := fun j hj => Option.some.inj ((elt_at GW_2 hj).symm.trans ((sta_2 hf hj).trans (elt_at GW_2 hj)))
  have sa1 : ∀ j, j < 10 → a1q j = a1 j := fun j hj => Option.some.inj ((elt_at GW_6 hj).symm.trans ((sta_6 hf hj).trans (elt_at GW_6 hj)))
  have sa2 : ∀ j, j < 10 → a2q j = a2 j := fun j hj => Option.some.inj ((elt_at GW_7 hj).symm.trans ((sta_7 hf hj).trans (elt_at GW_7 hj)))
  have sa3 : ∀ j, j < 10 → a3q j = a3 j := fun j hj => Option.some.inj ((elt_at GW_8 hj).symm.trans ((sta_8 hf hj).trans (elt_at GW_8 hj)))
  have sb1 : ∀ j, j < 10 → b1q j = b1 j := fun j hj => Option.some.inj ((elt_at GW_15 hj).symm.trans ((sta_15 hf hj).trans (elt_at GW_15 hj)))
  have sb2 : ∀ j, j < 10 → b2q j = b2 j := fun j hj => Option.some.inj ((elt_at GW_16 hj).symm.trans ((sta_16 hf hj).trans (elt_at GW_16 hj)))
  have sb3 : ∀ j, j < 10 → b3q j = b3 j := fun j hj => Option.some.inj ((elt_at GW_17 hj).symm.trans ((sta_17 hf hj).trans (elt_at GW_17 hj)))
  have sg1 : ∀ j, j < 10 → g1q j = g1 j := fun j hj => Option.some.inj ((elt_at GW_24 hj).symm.trans ((sta_24 hf hj).trans (elt_at GW_24 hj)))
  have sm1 : ∀ j, j < 10 → m1q j = m1 j := fun j hj => Option.some.inj ((elt_at GW_45 hj).symm.trans ((sta_45 hf hj).trans (elt_at GW_45 hj)))
  have sn1 : ∀ j, j < 10 → n1q j = n1 j := fun j hj => Option.some.inj ((elt_at GW_51 hj).symm.trans ((sta_51 hf hj).trans (elt_at GW_51 hj)))
  have sa4 : ∀ j, j < 16 → a4q j = a4 j := fun j hj => Option.some.inj ((elt_at GW_9 hj).symm.trans ((sta_9 hf hj).trans (elt_at GW_9 hj)))
  have sa5 : ∀ j, j < 16 → a5q j = a5 j := fun j hj => Option.some.inj ((elt_at GW_10 hj).symm.trans ((sta_10 hf hj).trans (elt_at GW_10 hj)))
  have sa6 : ∀ j, j < 16 → a6q j = a6 j := fun j hj => Option.some.inj ((elt_at GW_11 hj).symm.trans ((sta_11 hf hj).trans (elt_at GW_11 hj)))
  have sa7 : ∀ j, j < 16 → a7q j = a7 j := fun j hj => Option.some.inj ((elt_at GW_12 hj).symm.trans ((sta_12 hf hj).trans (elt_at GW_12 hj)))
  have sa8 : ∀ j, j < 16 → a8q j = a8 j := fun j hj => Option.some.inj ((elt_at GW_13 hj).symm.trans ((sta_13 hf hj).trans (elt_at GW_13 hj)))
  have sb4 : ∀ j, j < 16 → b4q j = b4 j := fun j hj => Option.some.inj ((elt_at GW_18 hj).symm.trans ((sta_18 hf hj).trans (elt_at GW_18 hj)))
  have sb5 : ∀ j, j < 16 → b5q j = b5 j := fun j hj => Option.some.inj ((elt_at GW_19 hj).symm.trans ((sta_19 hf hj).trans (elt_at GW_19 hj)))
  have sb6 : ∀ j, j < 16 → b6q j = b6 j := fun j hj => Option.some.inj ((elt_at GW_20 hj).symm.trans ((sta_20 hf hj).trans (elt_at GW_20 hj)))
  have sb7 : ∀ j, j < 16 → b7q j = b7 j := fun j hj => Option.some.inj ((elt_at GW_21 hj).symm.trans ((sta_21 hf hj).trans (elt_at GW_21 hj)))
  have sb8 : ∀ j, j < 16 → b8q j = b8 j := fun j hj => Option.some.inj ((elt_at GW_22 hj).symm.trans ((sta_22 hf hj).trans (elt_at GW_22 hj)))
  have sg2 : ∀ j, j < 16 → g2q j = g2 j := fun j hj => Option.some.inj ((elt_at GW_25 hj).symm.trans ((sta_25 hf hj).trans (elt_at GW_25 hj)))
  have sg3 : ∀ j, j < 16 → g3q j = g3 j := fun j hj => Option.some.inj ((elt_at GW_26 hj).symm.trans ((sta_26 hf hj).trans (elt_at GW_26 hj)))
  have sm2 : ∀ j, j < 16 → m2q j = m2 j := fun j hj => Option.some.inj ((elt_at GW_46 hj).symm.trans ((sta_46 hf hj).trans (elt_at GW_46 hj)))
  have sm3 : ∀ j, j < 16 → m3q j = m3 j := fun j hj => Option.some.inj ((elt_at GW_47 hj).symm.trans ((sta_47 hf hj).trans (elt_at GW_47 hj)))
  have sn2 : ∀ j, j < 16 → n2q j = n2 j := fun j hj => Option.some.inj ((elt_at GW_52 hj).symm.trans ((sta_52 hf hj).trans (elt_at GW_52 hj)))
  have sn3 : ∀ j, j < 16 → n3q j = n3 j := fun j hj => Option.some.inj ((elt_at GW_53 hj).symm.trans ((sta_53 hf hj).trans (elt_at GW_53 hj)))
  have sg4 : ∀ j, j < 64 → g4q j = g4 j := fun j hj => Option.some.inj ((elt_at GW_27 hj).symm.trans ((sta_27 hf hj).trans (elt_at GW_27 hj)))
  have sm4 : ∀ j, j < 64 → m4q j = m4 j := fun j hj => Option.some.inj ((elt_at GW_48 hj).symm.trans ((sta_48 hf hj).trans (elt_at GW_48 hj)))
  have sn4 : ∀ j, j < 64 → n4q j = n4 j := fun j hj => Option.some.inj ((elt_at GW_54 hj).symm.trans ((sta_54 hf hj).trans (elt_at GW_54 hj)))
  have sg5 : ∀ j, j < 8 → g5q j = g5 j := fun j hj => Option.some.inj ((elt_at GW_28 hj).symm.trans ((sta_28 hf hj).trans (elt_at GW_28 hj)))
  have sm5 : ∀ j, j < 8 → m5q j = m5 j := fun j hj => Option.some.inj ((elt_at GW_49 hj).symm.trans ((sta_49 hf hj).trans (elt_at GW_49 hj)))
  have sn5 : ∀ j, j < 8 → n5q j = n5 j := fun j hj => Option.some.inj ((elt_at GW_55 hj).symm.trans ((sta_55 hf hj).trans (elt_at GW_55 hj)))
  have stt : ∀ j, j < 8 → ttq j = tt j := fun j hj => Option.some.inj ((elt_at GW_37 hj).symm.trans ((sta_37 hf hj).trans (elt_at GW_37 hj)))
  have ss : ∀ j, j < 131 → sq j = s j := fun j hj => Option.some.inj ((elt_at GW_57 hj).symm.trans ((sta_57 hf hj).trans (elt_at GW_57 hj)))
  have skp : ∀ j, j < 262 → kpq j = kp j := fun j hj => Option.some.inj ((elt_at GW_58 hj).symm.trans ((sta_58 hf hj).trans (elt_at GW_58 hj)))
  have sik : ∀ j, j < 2 → ikq j = ik j := fun j hj => Option.some.inj ((elt_at GW_59 hj).symm.trans ((sta_59 hf hj).trans (elt_at GW_59 hj)))
  have stn : ∀ j, j < 8 → tnq j = tn j := fun j hj => Option.some.inj ((elt_at GW_60 hj).symm.trans ((sta_60 hf hj).trans (elt_at GW_60 hj)))
  have sde : ∀ j, j < 30 → deq j = de j := fun j hj => Option.some.inj ((elt_at GW_61 hj).symm.trans ((sta_61 hf hj).trans (elt_at GW_61 hj)))
  have ssd : ∀ j, j < 80 → sdq j = sd j := fun j hj => Option.some.inj ((elt_at GW_62 hj).symm.trans ((sta_62 hf hj).trans (elt_at GW_62 hj)))
  have stx : ∀ j, j < 400 → txq j = tx j := fun j hj => Option.some.inj ((elt_at GW_65 hj).symm.trans ((sta_65 hf hj).trans (elt_at GW_65 hj)))
  obtain ⟨-, -, ⟨q1, q2, q3, q4, q5, q6, -⟩, r1, r2, r3, -⟩ := id hF
  obtain ⟨-, -, ⟨p1, p2, p3, p4, p5, p6, -⟩, t1, t2, t3, -⟩ := id hFq
  have xln : lnq = ln := (iv_inj (by omega) (by omega)).mp fln
  have xty : tyq = ty := (iv_inj (by omega) (by omega)).mp fty
  have xea : eaq = ea := (iv_inj (by omega) (by omega)).mp fea
  have xma : maq = ma := (iv_inj (by omega) (by omega)).mp fma
  have xeb : ebq = eb := (iv_inj (by omega) (by omega)).mp feb
  have xmb : mbq = mb := (iv_inj (by omega) (by omega)).mp fmb
  have xdb : dbq = db := (iv_inj (by omega) (by omega)).mp fdb
  have xsn : snq = sn := (iv_inj (by omega) (by omega)).mp fsn
  subst xln xty xea xma xeb xmb xdb xsn
  refine LI_to ⟨hFq, ⟨fun i hi h3 => ?_, fun d hd => ?_⟩, fun i hi hz => ?_, ⟨et, fun k hk => ?_⟩, fun hv => RO_ext r1.2 r2.2 (hRo hv) sa1 sa2 sa3 sa4 sa5 sa6 sa7 sa8 sde ssd, fun hv => RO_ext r1.2 r2.2 (hRo2 hv) sb1 sb2 sb3 sb4 sb5 sb6 sb7 sb8 sde ssd, LG_ext r2.2 hLG sg1 sg2 sg3 sg4 sg5 fre ffl ss, fun hz => ?_, fun hz => ?_, fun i hi => ?_, fun p hp => ?_, hmk⟩
  · rw [ssd _ (by omega)] at h3 ⊢
    exact hX.1 i hi h3
  · rw [ss _ (by omega), sde _ (by omega)]
    exact hX.2 d hd
  · rw [sik i hi] at hz
    obtain ⟨k1, k2⟩ := hK i hi hz
    refine ⟨fun d hd => ?_, fun p hp => ?_⟩
    · rw [skp _ (by omega), sde _ (by omega)]
      exact k1 d hd
    · rw [skp _ (by omega)]
      exact k2 p hp
  · rw [sbt k (by omega), stx k (by omega)]
    exact hl k hk
  · rw [fki] at hz
    exact LG_ext r2.2 (hI0 hz) sm1 sm2 sm3 sm4 sm5 fmr fmf (fun j hj => skp _ (by omega))
  · rw [fki] at hz
    exact LG_ext r2.2 (hI1 hz) sn1 sn2 sn3 sn4 sn5 fnr fnf (fun j hj => skp _ (by omega))
  · rw [sik i hi, fki]
    exact hik i hi
  · rw [stt p hp, stn p hp]
    exact htt p hp
