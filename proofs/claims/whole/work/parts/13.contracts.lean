/-! ===== the contracts ===== -/
theorem mk_all (m : Nat) (h : m < 189) : Cond.code (My m) (Mb m) (ML m) (Mr m) ∈ lw_tbl :=
  (if h0_189 : m < 94 then (if h0_94 : m < 47 then (if h0_47 : m < 23 then (if h0_23 : m < 11 then (if h0_11 : m < 5 then (if h0_5 : m < 2 then (if h0_2 : m < 1 then (by have e : m = 0 := by omega
     subst e; exact mk0) else (by have e : m = 1 := by omega
     subst e; exact mk1)) else (if h2_5 : m < 3 then (by have e : m = 2 := by omega
     subst e; exact mk2) else (if h3_5 : m < 4 then (by have e : m = 3 := by omega
     subst e; exact mk3) else (by have e : m = 4 := by omega
     subst e; exact mk4)))) else (if h5_11 : m < 8 then (if h5_8 : m < 6 then (by have e : m = 5 := by omega
     subst e; exact mk5) else (if h6_8 : m < 7 then (by have e : m = 6 := by omega
     subst e; exact mk6) else (by have e : m = 7 := by omega
     subst e; exact mk7))) else (if h8_11 : m < 9 then (by have e : m = 8 := by omega
     subst e; exact mk8) else (if h9_11 : m < 10 then (by have e : m = 9 := by omega
     subst e; exact mk9) else (by have e : m = 10 := by omega
     subst e; exact mk10))))) else (if h11_23 : m < 17 then (if h11_17 : m < 14 then (if h11_14 : m < 12 then (by have e : m = 11 := by omega
     subst e; exact mk11) else (if h12_14 : m < 13 then (by have e : m = 12 := by omega
     subst e; exact mk12) else (by have e : m = 13 := by omega
     subst e; exact mk13))) else (if h14_17 : m < 15 then (by have e : m = 14 := by omega
     subst e; exact mk14) else (if h15_17 : m < 16 then (by have e : m = 15 := by omega
     subst e; exact mk15) else (by have e : m = 16 := by omega
     subst e; exact mk16)))) else (if h17_23 : m < 20 then (if h17_20 : m < 18 then (by have e : m = 17 := by omega
     subst e; exact mk17) else (if h18_20 : m < 19 then (by have e : m = 18 := by omega
     subst e; exact mk18) else (by have e : m = 19 := by omega
     subst e; exact mk19))) else (if h20_23 : m < 21 then (by have e : m = 20 := by omega
     subst e; exact mk20) else (if h21_23 : m < 22 then (by have e : m = 21 := by omega
     subst e; exact mk21) else (by have e : m = 22 := by omega
     subst e; exact mk22)))))) else (if h23_47 : m < 35 then (if h23_35 : m < 29 then (if h23_29 : m < 26 then (if h23_26 : m < 24 then (by have e : m = 23 := by omega
     subst e; exact mk23) else (if h24_26 : m < 25 then (by have e : m = 24 := by omega
     subst e; exact mk24) else (by have e : m = 25 := by omega
     subst e; exact mk25))) else (if h26_29 : m < 27 then (by have e : m = 26 := by omega
     subst e; exact mk26) else (if h27_29 : m < 28 then (by have e : m = 27 := by omega
     subst e; exact mk27) else (by have e : m = 28 := by omega
     subst e; exact mk28)))) else (if h29_35 : m < 32 then (if h29_32 : m < 30 then (by have e : m = 29 := by omega
     subst e; exact mk29) else (if h30_32 : m < 31 then (by have e : m = 30 := by omega
     subst e; exact mk30) else (by have e : m = 31 := by omega
     subst e; exact mk31))) else (if h32_35 : m < 33 then (by have e : m = 32 := by omega
     subst e; exact mk32) else (if h33_35 : m < 34 then (by have e : m = 33 := by omega
     subst e; exact mk33) else (by have e : m = 34 := by omega
     subst e; exact mk34))))) else (if h35_47 : m < 41 then (if h35_41 : m < 38 then (if h35_38 : m < 36 then (by have e : m = 35 := by omega
     subst e; exact mk35) else (if h36_38 : m < 37 then (by have e : m = 36 := by omega
     subst e; exact mk36) else (by have e : m = 37 := by omega
     subst e; exact mk37))) else (if h38_41 : m < 39 then (by have e : m = 38 := by omega
     subst e; exact mk38) else (if h39_41 : m < 40 then (by have e : m = 39 := by omega
     subst e; exact mk39) else (by have e : m = 40 := by omega
     subst e; exact mk40)))) else (if h41_47 : m < 44 then (if h41_44 : m < 42 then (by have e : m = 41 := by omega
     subst e; exact mk41) else (if h42_44 : m < 43 then (by have e : m = 42 := by omega
     subst e; exact mk42) else (by have e : m = 43 := by omega
     subst e; exact mk43))) else (if h44_47 : m < 45 then (by have e : m = 44 := by omega
     subst e; exact mk44) else (if h45_47 : m < 46 then (by have e : m = 45 := by omega
     subst e; exact mk45) else (by have e : m = 46 := by omega
     subst e; exact mk46))))))) else (if h47_94 : m < 70 then (if h47_70 : m < 58 then (if h47_58 : m < 52 then (if h47_52 : m < 49 then (if h47_49 : m < 48 then (by have e : m = 47 := by omega
     subst e; exact mk47) else (by have e : m = 48 := by omega
     subst e; exact mk48)) else (if h49_52 : m < 50 then (by have e : m = 49 := by omega
     subst e; exact mk49) else (if h50_52 : m < 51 then (by have e : m = 50 := by omega
     subst e; exact mk50) else (by have e : m = 51 := by omega
     subst e; exact mk51)))) else (if h52_58 : m < 55 then (if h52_55 : m < 53 then (by have e : m = 52 := by omega
     subst e; exact mk52) else (if h53_55 : m < 54 then (by have e : m = 53 := by omega
     subst e; exact mk53) else (by have e : m = 54 := by omega
     subst e; exact mk54))) else (if h55_58 : m < 56 then (by have e : m = 55 := by omega
     subst e; exact mk55) else (if h56_58 : m < 57 then (by have e : m = 56 := by omega
     subst e; exact mk56) else (by have e : m = 57 := by omega
     subst e; exact mk57))))) else (if h58_70 : m < 64 then (if h58_64 : m < 61 then (if h58_61 : m < 59 then (by have e : m = 58 := by omega
     subst e; exact mk58) else (if h59_61 : m < 60 then (by have e : m = 59 := by omega
     subst e; exact mk59) else (by have e : m = 60 := by omega
     subst e; exact mk60))) else (if h61_64 : m < 62 then (by have e : m = 61 := by omega
     subst e; exact mk61) else (if h62_64 : m < 63 then (by have e : m = 62 := by omega
     subst e; exact mk62) else (by have e : m = 63 := by omega
     subst e; exact mk63)))) else (if h64_70 : m < 67 then (if h64_67 : m < 65 then (by have e : m = 64 := by omega
     subst e; exact mk64) else (if h65_67 : m < 66 then (by have e : m = 65 := by omega
     subst e; exact mk65) else (by have e : m = 66 := by omega
     subst e; exact mk66))) else (if h67_70 : m < 68 then (by have e : m = 67 := by omega
     subst e; exact mk67) else (if h68_70 : m < 69 then (by have e : m = 68 := by omega
     subst e; exact mk68) else (by have e : m = 69 := by omega
     subst e; exact mk69)))))) else (if h70_94 : m < 82 then (if h70_82 : m < 76 then (if h70_76 : m < 73 then (if h70_73 : m < 71 then (by have e : m = 70 := by omega
     subst e; exact mk70) else (if h71_73 : m < 72 then (by have e : m = 71 := by omega
     subst e; exact mk71) else (by have e : m = 72 := by omega
     subst e; exact mk72))) else (if h73_76 : m < 74 then (by have e : m = 73 := by omega
     subst e; exact mk73) else (if h74_76 : m < 75 then (by have e : m = 74 := by omega
     subst e; exact mk74) else (by have e : m = 75 := by omega
     subst e; exact mk75)))) else (if h76_82 : m < 79 then (if h76_79 : m < 77 then (by have e : m = 76 := by omega
     subst e; exact mk76) else (if h77_79 : m < 78 then (by have e : m = 77 := by omega
     subst e; exact mk77) else (by have e : m = 78 := by omega
     subst e; exact mk78))) else (if h79_82 : m < 80 then (by have e : m = 79 := by omega
     subst e; exact mk79) else (if h80_82 : m < 81 then (by have e : m = 80 := by omega
     subst e; exact mk80) else (by have e : m = 81 := by omega
     subst e; exact mk81))))) else (if h82_94 : m < 88 then (if h82_88 : m < 85 then (if h82_85 : m < 83 then (by have e : m = 82 := by omega
     subst e; exact mk82) else (if h83_85 : m < 84 then (by have e : m = 83 := by omega
     subst e; exact mk83) else (by have e : m = 84 := by omega
     subst e; exact mk84))) else (if h85_88 : m < 86 then (by have e : m = 85 := by omega
     subst e; exact mk85) else (if h86_88 : m < 87 then (by have e : m = 86 := by omega
     subst e; exact mk86) else (by have e : m = 87 := by omega
     subst e; exact mk87)))) else (if h88_94 : m < 91 then (if h88_91 : m < 89 then (by have e : m = 88 := by omega
     subst e; exact mk88) else (if h89_91 : m < 90 then (by have e : m = 89 := by omega
     subst e; exact mk89) else (by have e : m = 90 := by omega
     subst e; exact mk90))) else (if h91_94 : m < 92 then (by have e : m = 91 := by omega
     subst e; exact mk91) else (if h92_94 : m < 93 then (by have e : m = 92 := by omega
     subst e; exact mk92) else (by have e : m = 93 := by omega
     subst e; exact mk93)))))))) else (if h94_189 : m < 141 then (if h94_141 : m < 117 then (if h94_117 : m < 105 then (if h94_105 : m < 99 then (if h94_99 : m < 96 then (if h94_96 : m < 95 then (by have e : m = 94 := by omega
     subst e; exact mk94) else (by have e : m = 95 := by omega
     subst e; exact mk95)) else (if h96_99 : m < 97 then (by have e : m = 96 := by omega
     subst e; exact mk96) else (if h97_99 : m < 98 then (by have e : m = 97 := by omega
     subst e; exact mk97) else (by have e : m = 98 := by omega
     subst e; exact mk98)))) else (if h99_105 : m < 102 then (if h99_102 : m < 100 then (by have e : m = 99 := by omega
     subst e; exact mk99) else (if h100_102 : m < 101 then (by have e : m = 100 := by omega
     subst e; exact mk100) else (by have e : m = 101 := by omega
     subst e; exact mk101))) else (if h102_105 : m < 103 then (by have e : m = 102 := by omega
     subst e; exact mk102) else (if h103_105 : m < 104 then (by have e : m = 103 := by omega
     subst e; exact mk103) else (by have e : m = 104 := by omega
     subst e; exact mk104))))) else (if h105_117 : m < 111 then (if h105_111 : m < 108 then (if h105_108 : m < 106 then (by have e : m = 105 := by omega
     subst e; exact mk105) else (if h106_108 : m < 107 then (by have e : m = 106 := by omega
     subst e; exact mk106) else (by have e : m = 107 := by omega
     subst e; exact mk107))) else (if h108_111 : m < 109 then (by have e : m = 108 := by omega
     subst e; exact mk108) else (if h109_111 : m < 110 then (by have e : m = 109 := by omega
     subst e; exact mk109) else (by have e : m = 110 := by omega
     subst e; exact mk110)))) else (if h111_117 : m < 114 then (if h111_114 : m < 112 then (by have e : m = 111 := by omega
     subst e; exact mk111) else (if h112_114 : m < 113 then (by have e : m = 112 := by omega
     subst e; exact mk112) else (by have e : m = 113 := by omega
     subst e; exact mk113))) else (if h114_117 : m < 115 then (by have e : m = 114 := by omega
     subst e; exact mk114) else (if h115_117 : m < 116 then (by have e : m = 115 := by omega
     subst e; exact mk115) else (by have e : m = 116 := by omega
     subst e; exact mk116)))))) else (if h117_141 : m < 129 then (if h117_129 : m < 123 then (if h117_123 : m < 120 then (if h117_120 : m < 118 then (by have e : m = 117 := by omega
     subst e; exact mk117) else (if h118_120 : m < 119 then (by have e : m = 118 := by omega
     subst e; exact mk118) else (by have e : m = 119 := by omega
     subst e; exact mk119))) else (if h120_123 : m < 121 then (by have e : m = 120 := by omega
     subst e; exact mk120) else (if h121_123 : m < 122 then (by have e : m = 121 := by omega
     subst e; exact mk121) else (by have e : m = 122 := by omega
     subst e; exact mk122)))) else (if h123_129 : m < 126 then (if h123_126 : m < 124 then (by have e : m = 123 := by omega
     subst e; exact mk123) else (if h124_126 : m < 125 then (by have e : m = 124 := by omega
     subst e; exact mk124) else (by have e : m = 125 := by omega
     subst e; exact mk125))) else (if h126_129 : m < 127 then (by have e : m = 126 := by omega
     subst e; exact mk126) else (if h127_129 : m < 128 then (by have e : m = 127 := by omega
     subst e; exact mk127) else (by have e : m = 128 := by omega
     subst e; exact mk128))))) else (if h129_141 : m < 135 then (if h129_135 : m < 132 then (if h129_132 : m < 130 then (by have e : m = 129 := by omega
     subst e; exact mk129) else (if h130_132 : m < 131 then (by have e : m = 130 := by omega
     subst e; exact mk130) else (by have e : m = 131 := by omega
     subst e; exact mk131))) else (if h132_135 : m < 133 then (by have e : m = 132 := by omega
     subst e; exact mk132) else (if h133_135 : m < 134 then (by have e : m = 133 := by omega
     subst e; exact mk133) else (by have e : m = 134 := by omega
     subst e; exact mk134)))) else (if h135_141 : m < 138 then (if h135_138 : m < 136 then (by have e : m = 135 := by omega
     subst e; exact mk135) else (if h136_138 : m < 137 then (by have e : m = 136 := by omega
     subst e; exact mk136) else (by have e : m = 137 := by omega
     subst e; exact mk137))) else (if h138_141 : m < 139 then (by have e : m = 138 := by omega
     subst e; exact mk138) else (if h139_141 : m < 140 then (by have e : m = 139 := by omega
     subst e; exact mk139) else (by have e : m = 140 := by omega
     subst e; exact mk140))))))) else (if h141_189 : m < 165 then (if h141_165 : m < 153 then (if h141_153 : m < 147 then (if h141_147 : m < 144 then (if h141_144 : m < 142 then (by have e : m = 141 := by omega
     subst e; exact mk141) else (if h142_144 : m < 143 then (by have e : m = 142 := by omega
     subst e; exact mk142) else (by have e : m = 143 := by omega
     subst e; exact mk143))) else (if h144_147 : m < 145 then (by have e : m = 144 := by omega
     subst e; exact mk144) else (if h145_147 : m < 146 then (by have e : m = 145 := by omega
     subst e; exact mk145) else (by have e : m = 146 := by omega
     subst e; exact mk146)))) else (if h147_153 : m < 150 then (if h147_150 : m < 148 then (by have e : m = 147 := by omega
     subst e; exact mk147) else (if h148_150 : m < 149 then (by have e : m = 148 := by omega
     subst e; exact mk148) else (by have e : m = 149 := by omega
     subst e; exact mk149))) else (if h150_153 : m < 151 then (by have e : m = 150 := by omega
     subst e; exact mk150) else (if h151_153 : m < 152 then (by have e : m = 151 := by omega
     subst e; exact mk151) else (by have e : m = 152 := by omega
     subst e; exact mk152))))) else (if h153_165 : m < 159 then (if h153_159 : m < 156 then (if h153_156 : m < 154 then (by have e : m = 153 := by omega
     subst e; exact mk153) else (if h154_156 : m < 155 then (by have e : m = 154 := by omega
     subst e; exact mk154) else (by have e : m = 155 := by omega
     subst e; exact mk155))) else (if h156_159 : m < 157 then (by have e : m = 156 := by omega
     subst e; exact mk156) else (if h157_159 : m < 158 then (by have e : m = 157 := by omega
     subst e; exact mk157) else (by have e : m = 158 := by omega
     subst e; exact mk158)))) else (if h159_165 : m < 162 then (if h159_162 : m < 160 then (by have e : m = 159 := by omega
     subst e; exact mk159) else (if h160_162 : m < 161 then (by have e : m = 160 := by omega
     subst e; exact mk160) else (by have e : m = 161 := by omega
     subst e; exact mk161))) else (if h162_165 : m < 163 then (by have e : m = 162 := by omega
     subst e; exact mk162) else (if h163_165 : m < 164 then (by have e : m = 163 := by omega
     subst e; exact mk163) else (by have e : m = 164 := by omega
     subst e; exact mk164)))))) else (if h165_189 : m < 177 then (if h165_177 : m < 171 then (if h165_171 : m < 168 then (if h165_168 : m < 166 then (by have e : m = 165 := by omega
     subst e; exact mk165) else (if h166_168 : m < 167 then (by have e : m = 166 := by omega
     subst e; exact mk166) else (by have e : m = 167 := by omega
     subst e; exact mk167))) else (if h168_171 : m < 169 then (by have e : m = 168 := by omega
     subst e; exact mk168) else (if h169_171 : m < 170 then (by have e : m = 169 := by omega
     subst e; exact mk169) else (by have e : m = 170 := by omega
     subst e; exact mk170)))) else (if h171_177 : m < 174 then (if h171_174 : m < 172 then (by have e : m = 171 := by omega
     subst e; exact mk171) else (if h172_174 : m < 173 then (by have e : m = 172 := by omega
     subst e; exact mk172) else (by have e : m = 173 := by omega
     subst e; exact mk173))) else (if h174_177 : m < 175 then (by have e : m = 174 := by omega
     subst e; exact mk174) else (if h175_177 : m < 176 then (by have e : m = 175 := by omega
     subst e; exact mk175) else (by have e : m = 176 := by omega
     subst e; exact mk176))))) else (if h177_189 : m < 183 then (if h177_183 : m < 180 then (if h177_180 : m < 178 then (by have e : m = 177 := by omega
     subst e; exact mk177) else (if h178_180 : m < 179 then (by have e : m = 178 := by omega
     subst e; exact mk178) else (by have e : m = 179 := by omega
     subst e; exact mk179))) else (if h180_183 : m < 181 then (by have e : m = 180 := by omega
     subst e; exact mk180) else (if h181_183 : m < 182 then (by have e : m = 181 := by omega
     subst e; exact mk181) else (by have e : m = 182 := by omega
     subst e; exact mk182)))) else (if h183_189 : m < 186 then (if h183_186 : m < 184 then (by have e : m = 183 := by omega
     subst e; exact mk183) else (if h184_186 : m < 185 then (by have e : m = 184 := by omega
     subst e; exact mk184) else (by have e : m = 185 := by omega
     subst e; exact mk185))) else (if h186_189 : m < 187 then (by have e : m = 186 := by omega
     subst e; exact mk186) else (if h187_189 : m < 188 then (by have e : m = 187 := by omega
     subst e; exact mk187) else (by have e : m = 188 := by omega
     subst e; exact mk188)))))))))
theorem mw_all (m : Nat) (h : m < 189) : (Mst m = true → Cond.static (My m) ∈ lw_tbl) ∧ (Mst m = false → Cond.instanceMethod (My m) ∈ lw_tbl) ∧ Cond.initialized (My m).cls ∈ lw_tbl ∧ (Mst m = false → Mini m = false → Cond.selects (My m).cls (My m) (My m) ∈ lw_tbl) := by
  have h0 := List.all_eq_true.mp MWT_all m (List.mem_range.mpr h)
  obtain ⟨r, h1, h2⟩ := List.any_eq_true.mp h0
  have h3 := List.all_eq_true.mp MWT_ok r h1
  unfold mwB at h3
  rw [Nat.eq_of_beq_eq_true h2] at h3
  simp only [Bool.and_eq_true, Bool.or_eq_true, decide_eq_true_eq] at h3
  obtain ⟨⟨h4, h5⟩, h6⟩ := h3
  refine ⟨fun q => ?_, fun q => ?_, List.mem_of_getElem? h5, fun q1 q2 => ?_⟩
  · rw [q] at h4
    exact List.mem_of_getElem? (of_decide_eq_true h4)
  · rw [q] at h4
    exact List.mem_of_getElem? (of_decide_eq_true h4)
  · rcases h6 with (h6 | h6) | h6
    · rw [q1] at h6; cases h6
    · rw [q2] at h6; cases h6
    · exact List.mem_of_getElem? h6
def mfB (m : Nat) : Bool := decide ((parseMethodDescriptor (My m).desc).map (fun d => d.parameters.length) = some (Mas m)) && decide ((My m).cls = ON (Mo m)) && plainName (My m).cls && decide ((My m).cls ≠ "java/lang/invoke/MethodHandle") && decide ((My m).cls ≠ "java/lang/invoke/VarHandle") && Nat.ble (ML m) 22 && (!(Mini m) || (decide ((My m).name = "<init>") && decide (Mr m = none))) && (Mini m || (Nat.beq (Mmc m) 0 && Nat.beq (Mms m) 0)) && (Mst m || Nat.blt (Mo m) 7)
theorem mf_all : (List.range 189).all mfB = true := by decide +kernel
theorem mf_get (m : Nat) (h : m < 189) : ((parseMethodDescriptor (My m).desc).map (fun d => d.parameters.length) = some (Mas m) ∧ (My m).cls = ON (Mo m) ∧ plainName (My m).cls = true ∧ (My m).cls ≠ "java/lang/invoke/MethodHandle" ∧ (My m).cls ≠ "java/lang/invoke/VarHandle") ∧ ML m ≤ 22 ∧ (Mini m = true → (My m).name = "<init>" ∧ Mr m = none) ∧ (Mini m = false → Mmc m = 0 ∧ Mms m = 0) ∧ (Mst m = false → Mo m < 7) := by
  have h0 := List.all_eq_true.mp mf_all m (List.mem_range.mpr h)
  unfold mfB at h0
  simp only [Bool.and_eq_true, Bool.or_eq_true, decide_eq_true_eq, Bool.not_eq_true'] at h0
  obtain ⟨⟨⟨⟨⟨⟨⟨⟨h1, h2⟩, h3⟩, h4⟩, h5⟩, h6⟩, h7⟩, h8⟩, h9⟩ := h0
  refine ⟨⟨h1, h2, h3, h4, h5⟩, Nat.le_of_ble_eq_true h6, fun q => ?_, fun q => ?_, fun q => ?_⟩
  · rcases h7 with h7 | h7
    · rw [q] at h7; cases h7
    · exact h7
  · rcases h8 with h8 | h8
    · rw [q] at h8; cases h8
    · exact ⟨Nat.eq_of_beq_eq_true h8.1, Nat.eq_of_beq_eq_true h8.2⟩
  · rcases h9 with h9 | h9
    · rw [q] at h9; cases h9
    · exact blt_t h9
def mw (m : Nat) : List Cond := Cond.code (My m) (Mb m) (ML m) (Mr m) :: glw
def rmd (d m : Nat) : Room := { frames := d, cells := Mmc m, slots := Mms m, locals := 41 * d }
def PcG (G : GT) (as : List AV) (h : AH) : Array Value → State → Prop := va_Pc (as.map (cV G)) (fun U => WH G h U.heap ∧ WT G U)
def QcG (G : GT) (Q : Option AV → AH → Prop) : Array Value → State → Outcome → State → Prop := fun _ st oc t => (∃ (v : Option AV) (h' : AH), oc = .returned (v.map (cV G)) ∧ Q v h' ∧ WH G h' t.heap) ∧ va_F (AA G) st t
def CT (l : Launch) (d : Nat) : Prop := ∀ (m : Nat) (G : GT) (as : List AV) (h : AH) (Q : Option AV → AH → Prop), m < 189 → RNd G.2.2.2.2.2 (d + 1) m as h Q → Met l (My m) (mw m) (rmd d m) (PcG G as h) (QcG G Q) (Mmc m) (Mms m) (AA G)
theorem mw_good {m : Nat} (h : m < 189) : GoodIn glw (mw m) := by
  intro w hw
  rcases List.mem_cons.mp hw with rfl | hw
  · exact ⟨in_glw (mk_all m h) rfl, good_of_word rfl⟩
  · exact ⟨hw, good_of_word (glw_good w hw)⟩
theorem my_AOA.moved {u U : State} (hvm : u.vm.Alike U.vm) (h : my_AOA .int u) : my_AOA .int U := by
  obtain ⟨comp, c, k, h1, h2, h3, h4, h5⟩ := arrayOverA_spec h
  obtain ⟨k', hk', he⟩ := hvm.2.2 _ _ h3
  have hi : (U.vm.classes.findIdx? fun (x : Class) => match x.kind with | .array component _ => component == comp | _ => false) = some c := by
    rw [← va_idx_bare]
    first | rw [hvm.bare_eq] | rw [← hvm.bare_eq]
    rw [va_idx_bare]
    exact h2
  have hkind : k'.kind = .array comp (.array .int) := by rw [he]; exact h4
  have f1 : U.vm.findClass (FieldType.array .int).toString = some comp := by rw [hvm.findClass]; exact h1
  have f2 : U.vm.findClass ("[" ++ (FieldType.array .int).toString) = some c := by rw [hvm.findClass]; exact h5
  unfold my_AOA Cond.before Cond.holds
  simp only [Cond.value]
  rw [f1, Option.bind_some]
  refine (congrArg (fun o : Option Nat => (o.bind (fun c => (U.vm.classes[c]?).map fun (k : Class) => match k.kind with | .array _ ty => decide (ty = FieldType.array .int) && decide (U.vm.findClass ("[" ++ (FieldType.array .int).toString) = some c) | _ => false) == some true)) hi).trans ?_
  simp [hk', hkind, f2]
theorem WT.mv {G : GT} {u U : State} (h : WT G u) (hvm : u.vm.Alike U.vm) (hh : ∀ q : Nat, q < G.1 → U.heap[q]? = u.heap[q]?) (hn : ∀ w ∈ lw_tbl, isNest w = true → va_Nw w u → va_Nw w U) : WT G U := by
  obtain ⟨h1, h2, h3, h4, h5, h6, h7, h8, h9, h10⟩ := h
  exact ⟨va_K.moved hvm h1, (h2.kept (hh _ h8)).moved hvm, (h3.kept (hh _ h9)).moved hvm, (h4.kept (fun a _ ha => hh a (Nat.not_le.mp ha))).moved hvm, fun w hw hi => hn w hw hi (h5 w hw hi), va_AO.moved hvm h6, my_AOA.moved hvm h7, h8, h9, h10⟩
theorem nest_warm {w : Cond} {s U : State} (hi : isNest w = true) (hW : s.WarmedH U.vm) (h : va_Nw w s) : va_Nw w U := by
  cases w <;> first | (cases hi; done) | exact va_Nw.warmF hW h | exact va_Nw.warmM hW h
theorem nest_same {w : Cond} {s U : State} (hi : isNest w = true) (hW : s.vm = U.vm) (h : va_Nw w s) : va_Nw w U := by
  cases w <;> first | (cases hi; done) | exact va_Nw.same rfl hW h
theorem PcG_blind (G : GT) (as : List AV) (h : AH) : FrameBlind (PcG G as h) := by
  intro a U g mk hp
  obtain ⟨h1, h2, h3⟩ := hp
  exact ⟨h1, h2, h3.mv (Vm.Alike.refl U.vm) (fun _ _ => rfl) (fun w _ hi hn => nest_same hi rfl hn)⟩
section CALL
variable {p : Program} {l : Launch} {e : Env} {R : Room} {s : State} {m : MethodId} {args : Array Value} {below : List Frame} {meth : Method} {c : Code} {H : Heap} {locs : List Loc} {cells slots : Nat} {Q : State → Prop}
variable {pc : Nat} {ls : Array Slot} {rest st0 : List Value} {a : Array Value} {mc ms : Nat} {G : GT}
theorem my_call {Q0 : Option AV → AH → Prop} (hr : va_Run p l e R s m args below meth c H locs cells slots mc ms (F0 m pc ls st0) rest (QcG G Q0 a) (AA G)) (hS : va_S (AA G) s.heap H locs)
    (kk : ∀ (v : Option AV) (h' : AH) (H1 : Heap) (locs1 : List Loc), Q0 v h' → WH G h' H1 → va_S (AA G) s.heap H1 locs1 → W p l e R s m args below meth c H1 locs1 (cells + mc) (slots + ms) Q (F0 m (pc + 3) ls ((v.map (cV G)).toList ++ rest))) : W p l e R s m args below meth c H locs cells slots Q (F0 m pc ls st0) := by
  intro T hT X
  obtain ⟨v, st₀, t, T', L, h0, X', hL, e1, e2, ⟨⟨r, u, hv, hp, hb⟩, hz, hk⟩, st⟩ := hr T hT X
  have hv' : v = r.map (cV G) := by injection hv
  subst hv'
  rw [h0] at hz hk
  obtain ⟨t2, a1, b1⟩ := kk r u T'.heap (locs ++ L) hp (by rw [e1]; exact hb)
    ⟨Nat.le_trans hS.1 (by rw [e1]; exact hz), fun q h1 h2 => by rw [e1, hk q (Nat.lt_of_lt_of_le h1 hS.1) h2]; exact hS.2.1 q h1 h2, fun q hq => by
      rcases List.mem_append.mp hq with h | h
      · exact hS.2.2 q h
      · exact hL q h⟩ T' rfl X'
  exact ⟨t2, st t2 a1, b1⟩
end CALL
