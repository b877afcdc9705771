/-! THE LOOP -/
theorem and63 (y : Int32) : 0 ≤ (y &&& 63).toInt ∧ (y &&& 63).toInt ≤ 63 := by
  have h1 : (y &&& 63).toBitVec.toNat = y.toBitVec.toNat % 64 := by
    rw [Int32.toBitVec_and, BitVec.toNat_and]
    exact Nat.and_two_pow_sub_one_eq_mod _ 6
  have h2 : (y &&& 63).toInt = ((y &&& 63).toBitVec.toNat : Int) := by
    show (y &&& 63).toBitVec.toInt = _
    exact BitVec.toInt_eq_toNat_of_lt (by omega)
  omega
theorem hd_gt {i Lx : Nat} (hi : i ≤ 4000) (hL : Lx ≤ 3072) : (Int32.ofNat Lx - 6 < Int32.ofNat i) ↔ Lx < i + 6 := by
  have h6 : (6 : Int32).toInt = 6 := rfl
  have hl := i_of (k := Lx) (by omega)
  rw [i_lt, i_sub (by omega) (by omega), hl, i_of (k := i) (by omega), h6]
  omega
set_option maxHeartbeats 4000000 in
set_option maxRecDepth 100000 in
theorem law_sw {G : gG} {b Lx i : Nat} {xs : Nat → Int32} {lay : Nat → Nat × Nat} {T0 T1 : Nat} {Dd : Nat → Nat → UInt64} {I : gI} {J : gJ} {K : gI} {N : gJ} {sz k n : Nat} (hs : G.1.stackTraces = false) (hE : gLay lay) (hj : gEnd lay) (R : Rel T0 T1 I K) (hL : Lx ≤ 3072) (hi : i + 6 ≤ Lx) (hk : k + 64 ≤ 601024) (hn : n + 64 ≤ 7293034) (hx : lNx G b Lx xs lay i k n) {w : Int32} (h0 : 0 ≤ w.toInt) (h63 : w.toInt ≤ 63) : gAt G mL_law (lQ G b Lx xs) 45 (lLL G b i) [.int w] (fO G (lay, T0, T1, Dd) I J K N) sz k n := by
  obtain ⟨c, hc, he⟩ : ∃ c : Nat, c < 64 ∧ w.toInt = (c : Int) := ⟨w.toInt.toNat, by omega, by omega⟩
  · rcases Nat.lt_or_ge c 32 with h32 | h32
    · rcases Nat.lt_or_ge c 16 with h16 | h16
      · rcases Nat.lt_or_ge c 8 with h8 | h8
        · rcases Nat.lt_or_ge c 4 with h4 | h4
          · rcases Nat.lt_or_ge c 2 with h2 | h2
            · rcases Nat.lt_or_ge c 1 with h1 | h1
              · obtain rfl : c = 0 := by omega
                exact r_tableIn (tgt := 316) dL_law_45 (by rw [he]; decide) (by rw [he]; decide) (by rw [he]; rfl) (by decide) (lc_append hs hE R hL hi hk hn hx)
              · obtain rfl : c = 1 := by omega
                exact r_tableIn (tgt := 389) dL_law_45 (by rw [he]; decide) (by rw [he]; decide) (by rw [he]; rfl) (by decide) (lc_load hs hE hj R hL hi hk hn hx)
            · rcases Nat.lt_or_ge c 3 with h3 | h3
              · obtain rfl : c = 2 := by omega
                exact r_tableIn (tgt := 445) dL_law_45 (by rw [he]; decide) (by rw [he]; decide) (by rw [he]; rfl) (by decide) (lc_parseError hs hE R hL hi hk hn hx)
              · obtain rfl : c = 3 := by omega
                exact r_tableIn (tgt := 458) dL_law_45 (by rw [he]; decide) (by rw [he]; decide) (by rw [he]; rfl) (by decide) (lc_errorPosition hs hE R hL hi hk hn hx)
          · rcases Nat.lt_or_ge c 6 with h6 | h6
            · rcases Nat.lt_or_ge c 5 with h5 | h5
              · obtain rfl : c = 4 := by omega
                exact r_tableIn (tgt := 471) dL_law_45 (by rw [he]; decide) (by rw [he]; decide) (by rw [he]; rfl) (by decide) (lc_buffered hs hE R hL hi hk hn hx)
              · obtain rfl : c = 5 := by omega
                exact r_tableIn (tgt := 484) dL_law_45 (by rw [he]; decide) (by rw [he]; decide) (by rw [he]; rfl) (by decide) (lc_time hs hE R hL hi hk hn hx)
            · rcases Nat.lt_or_ge c 7 with h7 | h7
              · obtain rfl : c = 6 := by omega
                exact r_tableIn (tgt := 497) dL_law_45 (by rw [he]; decide) (by rw [he]; decide) (by rw [he]; rfl) (by decide) (lc_width hs hE R hL hi hk hn hx)
              · obtain rfl : c = 7 := by omega
                exact r_tableIn (tgt := 510) dL_law_45 (by rw [he]; decide) (by rw [he]; decide) (by rw [he]; rfl) (by decide) (lc_height hs hE R hL hi hk hn hx)
        · rcases Nat.lt_or_ge c 12 with h12 | h12
          · rcases Nat.lt_or_ge c 10 with h10 | h10
            · rcases Nat.lt_or_ge c 9 with h9 | h9
              · obtain rfl : c = 8 := by omega
                exact r_tableIn (tgt := 523) dL_law_45 (by rw [he]; decide) (by rw [he]; decide) (by rw [he]; rfl) (by decide) (lc_wall hs hE R hL hi hk hn hx)
              · obtain rfl : c = 9 := by omega
                exact r_tableIn (tgt := 567) dL_law_45 (by rw [he]; decide) (by rw [he]; decide) (by rw [he]; rfl) (by decide) (lc_openRows hs hE R hL hi hk hn hx)
            · rcases Nat.lt_or_ge c 11 with h11 | h11
              · obtain rfl : c = 10 := by omega
                exact r_tableIn (tgt := 611) dL_law_45 (by rw [he]; decide) (by rw [he]; decide) (by rw [he]; rfl) (by decide) (lc_isOpen hs hE R hL hi hk hn hx)
              · obtain rfl : c = 11 := by omega
                exact r_tableIn (tgt := 674) dL_law_45 (by rw [he]; decide) (by rw [he]; decide) (by rw [he]; rfl) (by decide) (lc_sources hs hE R hL hi hk hn hx)
          · rcases Nat.lt_or_ge c 14 with h14 | h14
            · rcases Nat.lt_or_ge c 13 with h13 | h13
              · obtain rfl : c = 12 := by omega
                exact r_tableIn (tgt := 687) dL_law_45 (by rw [he]; decide) (by rw [he]; decide) (by rw [he]; rfl) (by decide) (lc_sourceAt hs hE R hL hi hk hn hx)
              · obtain rfl : c = 13 := by omega
                exact r_tableIn (tgt := 767) dL_law_45 (by rw [he]; decide) (by rw [he]; decide) (by rw [he]; rfl) (by decide) (lc_property hs hE R hL hi hk hn hx)
            · rcases Nat.lt_or_ge c 15 with h15 | h15
              · obtain rfl : c = 14 := by omega
                exact r_tableIn (tgt := 835) dL_law_45 (by rw [he]; decide) (by rw [he]; decide) (by rw [he]; rfl) (by decide) (lc_isOn hs hE R hL hi hk hn hx)
              · obtain rfl : c = 15 := by omega
                exact r_tableIn (tgt := 898) dL_law_45 (by rw [he]; decide) (by rw [he]; decide) (by rw [he]; rfl) (by decide) (lc_amplitude hs hE R hL hi hk hn hx)
      · rcases Nat.lt_or_ge c 24 with h24 | h24
        · rcases Nat.lt_or_ge c 20 with h20 | h20
          · rcases Nat.lt_or_ge c 18 with h18 | h18
            · rcases Nat.lt_or_ge c 17 with h17 | h17
              · obtain rfl : c = 16 := by omega
                exact r_tableIn (tgt := 966) dL_law_45 (by rw [he]; decide) (by rw [he]; decide) (by rw [he]; rfl) (by decide) (lc_sine hs hE R hL hi hk hn hx)
              · obtain rfl : c = 17 := by omega
                exact r_tableIn (tgt := 1022) dL_law_45 (by rw [he]; decide) (by rw [he]; decide) (by rw [he]; rfl) (by decide) (lc_distance hs hE R hL hi hk hn hx)
            · rcases Nat.lt_or_ge c 19 with h19 | h19
              · obtain rfl : c = 18 := by omega
                exact r_tableIn (tgt := 1090) dL_law_45 (by rw [he]; decide) (by rw [he]; decide) (by rw [he]; rfl) (by decide) (lc_isBehind hs hE R hL hi hk hn hx)
              · obtain rfl : c = 19 := by omega
                exact r_tableIn (tgt := 1177) dL_law_45 (by rw [he]; decide) (by rw [he]; decide) (by rw [he]; rfl) (by decide) (lc_path hs hE R hL hi hk hn hx)
          · rcases Nat.lt_or_ge c 22 with h22 | h22
            · rcases Nat.lt_or_ge c 21 with h21 | h21
              · obtain rfl : c = 20 := by omega
                exact r_tableIn (tgt := 1269) dL_law_45 (by rw [he]; decide) (by rw [he]; decide) (by rw [he]; rfl) (by decide) (lc_shortest hs hE R hL hi hk hn hx)
              · obtain rfl : c = 21 := by omega
                exact r_tableIn (tgt := 1349) dL_law_45 (by rw [he]; decide) (by rw [he]; decide) (by rw [he]; rfl) (by decide) (lc_phase hs hE R hL hi hk hn hx)
            · rcases Nat.lt_or_ge c 23 with h23 | h23
              · obtain rfl : c = 22 := by omega
                exact r_tableIn (tgt := 1429) dL_law_45 (by rw [he]; decide) (by rw [he]; decide) (by rw [he]; rfl) (by decide) (lc_arrival hs hE R hL hi hk hn hx)
              · obtain rfl : c = 23 := by omega
                exact r_tableIn (tgt := 1509) dL_law_45 (by rw [he]; decide) (by rw [he]; decide) (by rw [he]; rfl) (by decide) (lc_reached hs hE R hL hi hk hn hx)
        · rcases Nat.lt_or_ge c 28 with h28 | h28
          · rcases Nat.lt_or_ge c 26 with h26 | h26
            · rcases Nat.lt_or_ge c 25 with h25 | h25
              · obtain rfl : c = 24 := by omega
                exact r_tableIn (tgt := 1565) dL_law_45 (by rw [he]; decide) (by rw [he]; decide) (by rw [he]; rfl) (by decide) (lc_part hs hE R hL hi hk hn hx)
              · obtain rfl : c = 25 := by omega
                exact r_tableIn (tgt := 1645) dL_law_45 (by rw [he]; decide) (by rw [he]; decide) (by rw [he]; rfl) (by decide) (lc_wave hs hE R hL hi hk hn hx)
            · rcases Nat.lt_or_ge c 27 with h27 | h27
              · obtain rfl : c = 26 := by omega
                exact r_tableIn (tgt := 1713) dL_law_45 (by rw [he]; decide) (by rw [he]; decide) (by rw [he]; rfl) (by decide) (lc_waveAt hs hE R hL hi hk hn hx)
              · obtain rfl : c = 27 := by omega
                exact r_tableIn (tgt := 1793) dL_law_45 (by rw [he]; decide) (by rw [he]; decide) (by rw [he]; rfl) (by decide) (lc_quietIn hs hE R hL hi hk hn hx)
          · rcases Nat.lt_or_ge c 30 with h30 | h30
            · rcases Nat.lt_or_ge c 29 with h29 | h29
              · obtain rfl : c = 28 := by omega
                exact r_tableIn (tgt := 1885) dL_law_45 (by rw [he]; decide) (by rw [he]; decide) (by rw [he]; rfl) (by decide) (lc_gauges hs hE R hL hi hk hn hx)
              · obtain rfl : c = 29 := by omega
                exact r_tableIn (tgt := 1898) dL_law_45 (by rw [he]; decide) (by rw [he]; decide) (by rw [he]; rfl) (by decide) (lc_gaugeAt hs hE R hL hi hk hn hx)
            · rcases Nat.lt_or_ge c 31 with h31 | h31
              · obtain rfl : c = 30 := by omega
                exact r_tableIn (tgt := 1966) dL_law_45 (by rw [he]; decide) (by rw [he]; decide) (by rw [he]; rfl) (by decide) (lc_peak hs hE R hL hi hk hn hx)
              · obtain rfl : c = 31 := by omega
                exact r_tableIn (tgt := 2034) dL_law_45 (by rw [he]; decide) (by rw [he]; decide) (by rw [he]; rfl) (by decide) (lc_crossings hs hE R hL hi hk hn hx)
    · rcases Nat.lt_or_ge c 48 with h48 | h48
      · rcases Nat.lt_or_ge c 40 with h40 | h40
        · rcases Nat.lt_or_ge c 36 with h36 | h36
          · rcases Nat.lt_or_ge c 34 with h34 | h34
            · rcases Nat.lt_or_ge c 33 with h33 | h33
              · obtain rfl : c = 32 := by omega
                exact r_tableIn (tgt := 2102) dL_law_45 (by rw [he]; decide) (by rw [he]; decide) (by rw [he]; rfl) (by decide) (lc_rhythm hs hE R hL hi hk hn hx)
              · obtain rfl : c = 33 := by omega
                exact r_tableIn (tgt := 2170) dL_law_45 (by rw [he]; decide) (by rw [he]; decide) (by rw [he]; rfl) (by decide) (lc_isNode hs hE R hL hi hk hn hx)
            · rcases Nat.lt_or_ge c 35 with h35 | h35
              · obtain rfl : c = 34 := by omega
                exact r_tableIn (tgt := 2269) dL_law_45 (by rw [he]; decide) (by rw [he]; decide) (by rw [he]; rfl) (by decide) (lc_nodes hs hE R hL hi hk hn hx)
              · obtain rfl : c = 35 := by omega
                exact r_tableIn (tgt := 2337) dL_law_45 (by rw [he]; decide) (by rw [he]; decide) (by rw [he]; rfl) (by decide) (lc_nodeRows hs hE R hL hi hk hn hx)
          · rcases Nat.lt_or_ge c 38 with h38 | h38
            · rcases Nat.lt_or_ge c 37 with h37 | h37
              · obtain rfl : c = 36 := by omega
                exact r_tableIn (tgt := 2417) dL_law_45 (by rw [he]; decide) (by rw [he]; decide) (by rw [he]; rfl) (by decide) (lc_nodeGroups hs hE R hL hi hk hn hx)
              · obtain rfl : c = 37 := by omega
                exact r_tableIn (tgt := 2485) dL_law_45 (by rw [he]; decide) (by rw [he]; decide) (by rw [he]; rfl) (by decide) (lc_energy hs hE R hL hi hk hn hx)
            · rcases Nat.lt_or_ge c 39 with h39 | h39
              · obtain rfl : c = 38 := by omega
                exact r_tableIn (tgt := 2564) dL_law_45 (by rw [he]; decide) (by rw [he]; decide) (by rw [he]; rfl) (by decide) (lc_rowEnergy hs hE R hL hi hk hn hx)
              · obtain rfl : c = 39 := by omega
                exact r_tableIn (tgt := 2631) dL_law_45 (by rw [he]; decide) (by rw [he]; decide) (by rw [he]; rfl) (by decide) (lc_allEnergy hs hE R hL hi hk hn hx)
        · rcases Nat.lt_or_ge c 44 with h44 | h44
          · rcases Nat.lt_or_ge c 42 with h42 | h42
            · rcases Nat.lt_or_ge c 41 with h41 | h41
              · obtain rfl : c = 40 := by omega
                exact r_tableIn (tgt := 2686) dL_law_45 (by rw [he]; decide) (by rw [he]; decide) (by rw [he]; rfl) (by decide) (lc_strongest hs hE R hL hi hk hn hx)
              · obtain rfl : c = 41 := by omega
                exact r_tableIn (tgt := 2754) dL_law_45 (by rw [he]; decide) (by rw [he]; decide) (by rw [he]; rfl) (by decide) (lc_marks hs hE R hL hi hk hn hx)
            · rcases Nat.lt_or_ge c 43 with h43 | h43
              · obtain rfl : c = 42 := by omega
                exact r_tableIn (tgt := 2822) dL_law_45 (by rw [he]; decide) (by rw [he]; decide) (by rw [he]; rfl) (by decide) (lc_isMark hs hE R hL hi hk hn hx)
              · obtain rfl : c = 43 := by omega
                exact r_tableIn (tgt := 2921) dL_law_45 (by rw [he]; decide) (by rw [he]; decide) (by rw [he]; rfl) (by decide) (lc_fringes hs hE R hL hi hk hn hx)
          · rcases Nat.lt_or_ge c 46 with h46 | h46
            · rcases Nat.lt_or_ge c 45 with h45 | h45
              · obtain rfl : c = 44 := by omega
                exact r_tableIn (tgt := 2989) dL_law_45 (by rw [he]; decide) (by rw [he]; decide) (by rw [he]; rfl) (by decide) (lc_visibility hs hE R hL hi hk hn hx)
              · obtain rfl : c = 45 := by omega
                exact r_tableIn (tgt := 3079) dL_law_45 (by rw [he]; decide) (by rw [he]; decide) (by rw [he]; rfl) (by decide) (lc_writeRow hs hE R hL hi hk hn hx)
            · rcases Nat.lt_or_ge c 47 with h47 | h47
              · obtain rfl : c = 46 := by omega
                exact r_tableIn (tgt := 3135) dL_law_45 (by rw [he]; decide) (by rw [he]; decide) (by rw [he]; rfl) (by decide) (lc_writeMap hs hE R hL hi hk hn hx)
              · obtain rfl : c = 47 := by omega
                exact r_tableIn (tgt := 3191) dL_law_45 (by rw [he]; decide) (by rw [he]; decide) (by rw [he]; rfl) (by decide) (lc_textByte hs hE R hL hi hk hn hx)
      · rcases Nat.lt_or_ge c 56 with h56 | h56
        · rcases Nat.lt_or_ge c 52 with h52 | h52
          · rcases Nat.lt_or_ge c 50 with h50 | h50
            · rcases Nat.lt_or_ge c 49 with h49 | h49
              · obtain rfl : c = 48 := by omega
                exact r_tableIn (tgt := 3247) dL_law_45 (by rw [he]; decide) (by rw [he]; decide) (by rw [he]; rfl) (by decide) (lc_nodesIfOff hs hE R hL hi hk hn hx)
              · obtain rfl : c = 49 := by omega
                exact r_tableIn (tgt := 3327) dL_law_45 (by rw [he]; decide) (by rw [he]; decide) (by rw [he]; rfl) (by decide) (lc_bestPhase hs hE R hL hi hk hn hx)
            · rcases Nat.lt_or_ge c 51 with h51 | h51
              · obtain rfl : c = 50 := by omega
                exact r_tableIn (tgt := 3419) dL_law_45 (by rw [he]; decide) (by rw [he]; decide) (by rw [he]; rfl) (by decide) (lc_bestPlace hs hE R hL hi hk hn hx)
              · obtain rfl : c = 51 := by omega
                exact r_tableIn (tgt := 3511) dL_law_45 (by rw [he]; decide) (by rw [he]; decide) (by rw [he]; rfl) (by decide) (lc_energyIfTurned hs hE R hL hi hk hn hx)
          · rcases Nat.lt_or_ge c 54 with h54 | h54
            · rcases Nat.lt_or_ge c 53 with h53 | h53
              · obtain rfl : c = 52 := by omega
                exact r_tableIn (tgt := 3602) dL_law_45 (by rw [he]; decide) (by rw [he]; decide) (by rw [he]; rfl) (by decide) (lc_bestRow hs hE R hL hi hk hn hx)
              · obtain rfl : c = 53 := by omega
                exact r_tableIn (tgt := 3682) dL_law_45 (by rw [he]; decide) (by rw [he]; decide) (by rw [he]; rfl) (by decide) (lc_advance hs hE R hL hi hk hn hx)
            · rcases Nat.lt_or_ge c 55 with h55 | h55
              · obtain rfl : c = 54 := by omega
                exact r_tableIn (tgt := 3738) dL_law_45 (by rw [he]; decide) (by rw [he]; decide) (by rw [he]; rfl) (by decide) (lc_setOn hs hE R hL hi hk hn hx)
              · obtain rfl : c = 55 := by omega
                exact r_tableIn (tgt := 3829) dL_law_45 (by rw [he]; decide) (by rw [he]; decide) (by rw [he]; rfl) (by decide) (lc_setPhase hs hE R hL hi hk hn hx)
        · rcases Nat.lt_or_ge c 60 with h60 | h60
          · rcases Nat.lt_or_ge c 58 with h58 | h58
            · rcases Nat.lt_or_ge c 57 with h57 | h57
              · obtain rfl : c = 56 := by omega
                exact r_tableIn (tgt := 3897) dL_law_45 (by rw [he]; decide) (by rw [he]; decide) (by rw [he]; rfl) (by decide) (lc_setAmp hs hE R hL hi hk hn hx)
              · obtain rfl : c = 57 := by omega
                exact r_tableIn (tgt := 3965) dL_law_45 (by rw [he]; decide) (by rw [he]; decide) (by rw [he]; rfl) (by decide) (lc_moveSource hs hE R hL hi hk hn hx)
            · rcases Nat.lt_or_ge c 59 with h59 | h59
              · obtain rfl : c = 58 := by omega
                exact r_tableIn (tgt := 4045) dL_law_45 (by rw [he]; decide) (by rw [he]; decide) (by rw [he]; rfl) (by decide) (lc_setDrift hs hE R hL hi hk hn hx)
              · obtain rfl : c = 59 := by omega
                exact r_tableIn (tgt := 4125) dL_law_45 (by rw [he]; decide) (by rw [he]; decide) (by rw [he]; rfl) (by decide) (lc_turnRow hs hE R hL hi hk hn hx)
          · rcases Nat.lt_or_ge c 62 with h62 | h62
            · rcases Nat.lt_or_ge c 61 with h61 | h61
              · obtain rfl : c = 60 := by omega
                exact r_tableIn (tgt := 4188) dL_law_45 (by rw [he]; decide) (by rw [he]; decide) (by rw [he]; rfl) (by decide) (lc_undo hs hE R hL hi hk hn hx)
              · obtain rfl : c = 61 := by omega
                exact r_tableIn (tgt := 4232) dL_law_45 (by rw [he]; decide) (by rw [he]; decide) (by rw [he]; rfl) (by decide) (lc_undoable hs hE R hL hi hk hn hx)
            · rcases Nat.lt_or_ge c 63 with h63 | h63
              · obtain rfl : c = 62 := by omega
                exact r_tableIn (tgt := 4245) dL_law_45 (by rw [he]; decide) (by rw [he]; decide) (by rw [he]; rfl) (by decide) (lc_save hs hE R hL hi hk hn hx)
              · obtain rfl : c = 63 := by omega
                exact r_tableIn (tgt := 4301) dL_law_45 (by rw [he]; decide) (by rw [he]; decide) (by rw [he]; rfl) (by decide) (lc_restore hs hE R hL hi hk hn hx)
set_option maxHeartbeats 4000000 in
set_option maxRecDepth 100000 in
theorem law_loop {G : gG} {b Lx : Nat} {xs : Nat → Int32} {lay : Nat → Nat × Nat} (hs : G.1.stackTraces = false) (hE : gLay lay) (hj : gEnd lay) (hL : Lx ≤ 3072) : ∀ (r i : Nat) (T0 T1 : Nat) (Dd : Nat → Nat → UInt64) (I : gI) (J : gJ) (K : gI) (N : gJ) (sz k n : Nat), Lx ≤ i + 6 * r + 5 → i ≤ 3100 → k + 64 * r ≤ 601024 → n + 64 * r ≤ 7293034 → Rel T0 T1 I K → gAt G mL_law (lQ G b Lx xs) 28 (lLL G b i) [] (fO G (lay, T0, T1, Dd) I J K N) sz k n := by
  intro r
  induction r with
  | zero =>
    intro i T0 T1 Dd I J K N sz k n h1 h2 h3 h4 R
    refine r_iload dL_law_28 rfl ?_
    refine r_aload_n dL_law_30 rfl ?_
    refine s_len dL_law_31 ?_
    refine r_bipush (v := (6 : Int32)) dL_law_32 (by decide) ?_
    refine r_isub dL_law_34 ?_
    refine r_icmp_gt (tgt := 4363) dL_law_35 (by decide) (fun _ => ?_) (fun c => absurd ((hd_gt (by omega) hL).mpr (by omega)) c)
    refine r_iconst (v := (1 : Int32)) dL_law_4363 (by decide) ?_
    exact s_ret dL_law_4364 (by omega) (by omega)
  | succ r ih =>
    intro i T0 T1 Dd I J K N sz k n h1 h2 h3 h4 R
    refine r_iload dL_law_28 rfl ?_
    refine r_aload_n dL_law_30 rfl ?_
    refine s_len dL_law_31 ?_
    refine r_bipush (v := (6 : Int32)) dL_law_32 (by decide) ?_
    refine r_isub dL_law_34 ?_
    refine r_icmp_gt (tgt := 4363) dL_law_35 (by decide) (fun _ => ?_) (fun c => ?_)
    · refine r_iconst (v := (1 : Int32)) dL_law_4363 (by decide) ?_
      exact s_ret dL_law_4364 (by omega) (by omega)
    · have hi : i + 6 ≤ Lx := by
        rcases Nat.lt_or_ge Lx (i + 6) with q | q
        · exact absurd ((hd_gt (by omega) hL).mpr q) c
        · exact q
      refine r_aload_n dL_law_38 rfl ?_
      refine r_iload dL_law_39 rfl ?_
      refine s_ld dL_law_41 (s_vin hL (by omega)) ?_
      refine r_bipush (v := (63 : Int32)) dL_law_42 (by decide) ?_
      refine r_iand dL_law_44 ?_
      refine law_sw hs hE hj R hL hi (by omega) (by omega) ?_ (and63 _).1 (and63 _).2
      intro T0' T1' Dd' I' J' K' N' sz' R'
      refine r_iincv (v := Int32.ofNat (i + 6)) dL_law_4357 rfl (Int32.ofNat_add i 6).symm (by decide) rfl ?_
      refine r_goto (tgt := 28) dL_law_4360 (by decide) ?_
      exact ih (i + 6) T0' T1' Dd' I' J' K' N' sz' (k + 64) (n + 64) (by omega) (by omega) (by omega) (by omega) R'
theorem lX10 {G : gG} {b : Nat} : (eX10 G b).length = 17 := rfl
theorem r_swap {G : gG} {mi : gM} {Qp : List Frame → Array Value → State → State → Prop} {pc : Nat} {L : List (Option Value)} {st : List Value} {f f' : gF} {sz k n : Nat} (h : ∀ a, f' a = gj ∨ (f a ≠ gj ∧ ∀ H, va_at G.2.1 vwCl (a, f a) H → va_at G.2.1 vwCl (a, f' a) H)) (kk : gAt G mi Qp pc L st f' sz k n) : gAt G mi Qp pc L st f sz k n := by
  intro p e s m args below meth c F H locs ls hl hw
  refine kk p e s m args below meth c F H locs ls hl ⟨fun a ha => ?_, hw.2⟩
  rcases h a with z | ⟨z1, z2⟩
  · exact absurd z ha
  · exact ⟨z2 _ (hw.1 a z1).1, (hw.1 a z1).2⟩
set_option maxHeartbeats 4000000 in
set_option maxRecDepth 100000 in
theorem law_start {G : gG} {b Lx : Nat} {xs : Nat → Int32} (hs : G.1.stackTraces = false) (hL : Lx ≤ 3072) (f : gF) : gAt G mL_law (lQ G b Lx xs) 0 [some (.ref b), none, none, none, none, none, none, none, none] [] (fA G.2.2.1 f []) G.2.2.1 0 0 := by
  refine r_new (ci := 9) (fs := dfX9) tyX9 tyX9_ok uX9 rfl dL_law_0 wd_140 wd_141 wd_117 dfX9_ok (Nat.le_of_ble_eq_true rfl) (Nat.le_of_ble_eq_true rfl) ?_
  rw [show va_up (fA G.2.2.1 f []) G.2.2.1 (.inr (9, dfX9)) = fA G.2.2.1 f [.inr (9, dfX9)] from fA_new (b := G.2.2.1) (n := 0) (T := []) rfl]
  refine r_dup dL_law_3 rfl ?_
  refine r_callI (rest := [.ref G.2.2.1]) (ct_X9_init hs) (fun E f' sz' h => by cases h.1) dL_law_4 wd_142 zX9_init wd_143 rfl rfl rfl rfl rfl ⟨Nat.le_of_ble_eq_true rfl, Nat.le_of_ble_eq_true rfl⟩ (Nat.le_of_ble_eq_true rfl) ⟨Nat.le_of_ble_eq_true rfl, Nat.le_of_ble_eq_true rfl⟩ (fun v f' sz' h => ?_)
  obtain ⟨h1, h2, h3⟩ := h
  cases h1
  subst h2
  subst h3
  refine r_astore_n dL_law_7 (by decide) rfl ?_
  refine r_new (ci := 10) (fs := dfX10) tyX10 tyX10_ok uX10 rfl dL_law_8 wd_1515 wd_1516 wd_126 dfX10_ok (Nat.le_of_ble_eq_true rfl) (Nat.le_of_ble_eq_true rfl) ?_
  rw [fA_new (n := 153) lX9, ← fA_nest (n := 153) lX9]
  refine r_dup dL_law_11 rfl ?_
  refine r_callI (rest := [.ref (G.2.2.1 + 153)]) (ct_X10_init hs) (fun E f' sz' h => by cases h.1) dL_law_12 wd_1517 zX10_init wd_1518 rfl rfl rfl rfl rfl ⟨Nat.le_of_ble_eq_true rfl, Nat.le_of_ble_eq_true rfl⟩ (Nat.le_of_ble_eq_true rfl) ⟨Nat.le_of_ble_eq_true rfl, Nat.le_of_ble_eq_true rfl⟩ (fun v f' sz' h => ?_)
  obtain ⟨h1, h2, h3⟩ := h
  cases h1
  subst h2
  subst h3
  rw [fA_nest (n := 153) lX9]
  refine r_astore_n dL_law_15 (by decide) rfl ?_
  refine r_iconst (v := (1 : Int32)) dL_law_16 (by decide) ?_
  refine r_newa (ty := FieldType.long) (N := 1) (a0 := (1, .inr (.inl (fun _ => 0)))) 3 rfl rfl ⟨rfl, fun _ _ h => h⟩ na_l wd_277 (by decide) (by decide) (by decide) (Nat.le_of_ble_eq_true rfl) (Nat.le_of_ble_eq_true rfl) dL_law_17 ?_
  rw [show ∀ e, va_up (fA G.2.2.1 f (eX9 G G.2.2.1 ++ eX10 G (G.2.2.1 + 153))) (G.2.2.1 + 153 + 17) e = fA G.2.2.1 f (eX9 G G.2.2.1 ++ eX10 G (G.2.2.1 + 153) ++ [e]) from fun e => fA_new (n := 170) (by rw [List.length_append, lX9, lX10])]
  refine r_astore_n dL_law_19 (by decide) rfl ?_
  refine r_iconst (v := (1 : Int32)) dL_law_20 (by decide) ?_
  refine r_newa (ty := FieldType.double) (N := 1) (a0 := (1, .inr (.inr (.inr (.inl (fun _ => 0)))))) 4 rfl rfl ⟨rfl, fun _ _ h => h⟩ na_d (gW_of 2228 (by decide +kernel) (by decide +kernel)) (by decide) (by decide) (by decide) (Nat.le_of_ble_eq_true rfl) (Nat.le_of_ble_eq_true rfl) dL_law_21 ?_
  rw [show ∀ e e', va_up (fA G.2.2.1 f (eX9 G G.2.2.1 ++ eX10 G (G.2.2.1 + 153) ++ [e'])) (G.2.2.1 + 153 + 17 + 1) e = fA G.2.2.1 f (eX9 G G.2.2.1 ++ eX10 G (G.2.2.1 + 153) ++ [e'] ++ [e]) from fun e e' => fA_new (n := 171) (by rw [List.length_append, List.length_append, lX9, lX10]; rfl)]
  refine r_astore dL_law_23 (by decide) rfl ?_
  refine r_iconst (v := (0 : Int32)) dL_law_25 (by decide) ?_
  refine r_istore dL_law_26 (by decide) rfl ?_
  refine r_swap (lT_swap G f) ?_
  exact r_widen (k2 := 1000) (n2 := 10000) (Nat.le_of_ble_eq_true rfl) (Nat.le_of_ble_eq_true rfl) (law_loop hs lay0_lay lay0_end hL 513 0 95 116 _ lI0 lJ0 lK0 lJ0 _ 1000 10000 (by omega) (by omega) (by omega) (by omega) lRel)
