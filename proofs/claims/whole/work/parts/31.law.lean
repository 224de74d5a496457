/-! 31.law, laid by wip/whole/gen.py: the law -/
def fn_L_law_l18 (L : Nat) (xs : Nat → Int32) (a1 : mA) (a2 : mA) (t3 : Int32) : mP ((Int32) ⊕ (Int32)) :=
  if ((Int32.ofNat L) - 6) < t3 then
    m_rt (.inr 1)
  else
    m_bd (m_xa L xs t3) fun v4 =>
    if (v4 &&& 63) = 0 then
      m_bd (fn_C_status (some a1)) fun v5 =>
      m_bd (fn_M_status (some a2)) fun v6 =>
      if v5 = v6 then
        m_rt (.inl (t3 + 6))
      else
        m_rt (.inr 0)
    else if (v4 &&& 63) = 1 then
      m_bd (fn_C_top (some a1)) fun v7 =>
      m_bd (fn_M_top (some a2)) fun v8 =>
      if (lg_cmp v7 v8) = 0 then
        m_rt (.inl (t3 + 6))
      else
        m_rt (.inr 0)
    else if (v4 &&& 63) = 2 then
      m_bd (fn_C_bottom (some a1)) fun v9 =>
      m_bd (fn_M_bottom (some a2)) fun v10 =>
      if (lg_cmp v9 v10) = 0 then
        m_rt (.inl (t3 + 6))
      else
        m_rt (.inr 0)
    else if (v4 &&& 63) = 3 then
      m_bd (m_xa L xs (t3 + 1)) fun v11 =>
      m_bd (m_xa L xs (t3 + 2)) fun v12 =>
      m_bd (m_xa L xs (t3 + 3)) fun v13 =>
      m_bd (fn_C_tray (some a1) v11 v12 v13) fun v14 =>
      m_bd (m_xa L xs (t3 + 1)) fun v15 =>
      m_bd (m_xa L xs (t3 + 2)) fun v16 =>
      m_bd (m_xa L xs (t3 + 3)) fun v17 =>
      m_bd (fn_M_tray (some a2) v15 v16 v17) fun v18 =>
      if v14 = v18 then
        m_rt (.inl (t3 + 6))
      else
        m_rt (.inr 0)
    else if (v4 &&& 63) = 4 then
      m_bd (m_xa L xs (t3 + 1)) fun v19 =>
      m_bd (m_xa L xs (t3 + 2)) fun v20 =>
      m_bd (m_xa L xs (t3 + 3)) fun v21 =>
      m_bd (m_xa L xs (t3 + 4)) fun v22 =>
      m_bd (fn_C_write (some a1) v19 v20 (((v21).toInt64 <<< ((32 : Int32).toInt64 &&& 63)) ||| ((v22).toInt64 &&& 4294967295))) fun v23 =>
      m_bd (m_xa L xs (t3 + 1)) fun v24 =>
      m_bd (m_xa L xs (t3 + 2)) fun v25 =>
      m_bd (m_xa L xs (t3 + 3)) fun v26 =>
      m_bd (m_xa L xs (t3 + 4)) fun v27 =>
      m_bd (fn_M_write (some a2) v24 v25 (((v26).toInt64 <<< ((32 : Int32).toInt64 &&& 63)) ||| ((v27).toInt64 &&& 4294967295))) fun v28 =>
      if v23 = v28 then
        m_rt (.inl (t3 + 6))
      else
        m_rt (.inr 0)
    else if (v4 &&& 63) = 5 then
      m_bd (m_xa L xs (t3 + 1)) fun v29 =>
      m_bd (m_xa L xs (t3 + 2)) fun v30 =>
      m_bd (fn_C_read (some a1) v29 v30) fun v31 =>
      m_bd (m_xa L xs (t3 + 1)) fun v32 =>
      m_bd (m_xa L xs (t3 + 2)) fun v33 =>
      m_bd (fn_M_read (some a2) v32 v33) fun v34 =>
      if (lg_cmp v31 v34) = 0 then
        m_rt (.inl (t3 + 6))
      else
        m_rt (.inr 0)
    else if (v4 &&& 63) = 6 then
      m_bd (m_xa L xs (t3 + 1)) fun v35 =>
      m_bd (m_xa L xs (t3 + 2)) fun v36 =>
      m_bd (m_xa L xs (t3 + 3)) fun v37 =>
      m_bd (m_xa L xs (t3 + 4)) fun v38 =>
      m_bd (m_xa L xs (t3 + 5)) fun v39 =>
      m_bd (fn_C_pour (some a1) v35 v36 v37 v38 v39) fun v40 =>
      m_bd (m_xa L xs (t3 + 1)) fun v41 =>
      m_bd (m_xa L xs (t3 + 2)) fun v42 =>
      m_bd (m_xa L xs (t3 + 3)) fun v43 =>
      m_bd (m_xa L xs (t3 + 4)) fun v44 =>
      m_bd (m_xa L xs (t3 + 5)) fun v45 =>
      m_bd (fn_M_pour (some a2) v41 v42 v43 v44 v45) fun v46 =>
      if v40 = v46 then
        m_rt (.inl (t3 + 6))
      else
        m_rt (.inr 0)
    else if (v4 &&& 63) = 7 then
      m_bd (m_xa L xs (t3 + 1)) fun v47 =>
      m_bd (m_xa L xs (t3 + 2)) fun v48 =>
      m_bd (m_xa L xs (t3 + 3)) fun v49 =>
      m_bd (m_xa L xs (t3 + 4)) fun v50 =>
      m_bd (m_xa L xs (t3 + 5)) fun v51 =>
      m_bd (fn_C_feed (some a1) v47 v48 v49 v50 v51) fun v52 =>
      m_bd (m_xa L xs (t3 + 1)) fun v53 =>
      m_bd (m_xa L xs (t3 + 2)) fun v54 =>
      m_bd (m_xa L xs (t3 + 3)) fun v55 =>
      m_bd (m_xa L xs (t3 + 4)) fun v56 =>
      m_bd (m_xa L xs (t3 + 5)) fun v57 =>
      m_bd (fn_M_feed (some a2) v53 v54 v55 v56 v57) fun v58 =>
      if v52 = v58 then
        m_rt (.inl (t3 + 6))
      else
        m_rt (.inr 0)
    else if (v4 &&& 63) = 8 then
      m_bd (m_xa L xs (t3 + 1)) fun v59 =>
      m_bd (fn_C_family (some a1) v59) fun v60 =>
      m_bd (m_xa L xs (t3 + 1)) fun v61 =>
      m_bd (fn_M_family (some a2) v61) fun v62 =>
      if v60 = v62 then
        m_rt (.inl (t3 + 6))
      else
        m_rt (.inr 0)
    else if (v4 &&& 63) = 9 then
      m_bd (m_xa L xs (t3 + 1)) fun v63 =>
      m_bd (fn_C_years (some a1) v63) fun v64 =>
      m_bd (m_xa L xs (t3 + 1)) fun v65 =>
      m_bd (fn_M_years (some a2) v65) fun v66 =>
      if v64 = v66 then
        m_rt (.inl (t3 + 6))
      else
        m_rt (.inr 0)
    else if (v4 &&& 63) = 10 then
      m_bd (m_xa L xs (t3 + 1)) fun v67 =>
      m_bd (fn_C_fault (some a1) v67) fun v68 =>
      m_bd (m_xa L xs (t3 + 1)) fun v69 =>
      m_bd (fn_M_fault (some a2) v69) fun v70 =>
      if v68 = v70 then
        m_rt (.inl (t3 + 6))
      else
        m_rt (.inr 0)
    else if (v4 &&& 63) = 11 then
      m_bd (m_xa L xs (t3 + 1)) fun v71 =>
      m_bd (fn_C_many (some a1) v71) fun v72 =>
      m_bd (m_xa L xs (t3 + 1)) fun v73 =>
      m_bd (fn_M_many (some a2) v73) fun v74 =>
      if v72 = v74 then
        m_rt (.inl (t3 + 6))
      else
        m_rt (.inr 0)
    else if (v4 &&& 63) = 12 then
      m_bd (m_xa L xs (t3 + 1)) fun v75 =>
      m_bd (m_xa L xs (t3 + 2)) fun v76 =>
      m_bd (fn_C_person (some a1) v75 v76) fun v77 =>
      m_bd (m_xa L xs (t3 + 1)) fun v78 =>
      m_bd (m_xa L xs (t3 + 2)) fun v79 =>
      m_bd (fn_M_person (some a2) v78 v79) fun v80 =>
      if v77 = v80 then
        m_rt (.inl (t3 + 6))
      else
        m_rt (.inr 0)
    else if (v4 &&& 63) = 13 then
      m_bd (m_xa L xs (t3 + 1)) fun v81 =>
      m_bd (m_xa L xs (t3 + 2)) fun v82 =>
      m_bd (fn_C_thing (some a1) v81 v82) fun v83 =>
      m_bd (m_xa L xs (t3 + 1)) fun v84 =>
      m_bd (m_xa L xs (t3 + 2)) fun v85 =>
      m_bd (fn_M_thing (some a2) v84 v85) fun v86 =>
      if v83 = v86 then
        m_rt (.inl (t3 + 6))
      else
        m_rt (.inr 0)
    else if (v4 &&& 63) = 14 then
      m_bd (m_xa L xs (t3 + 1)) fun v87 =>
      m_bd (m_xa L xs (t3 + 2)) fun v88 =>
      m_bd (fn_C_love (some a1) v87 v88) fun v89 =>
      m_bd (m_xa L xs (t3 + 1)) fun v90 =>
      m_bd (m_xa L xs (t3 + 2)) fun v91 =>
      m_bd (fn_M_love (some a2) v90 v91) fun v92 =>
      if v89 = v92 then
        m_rt (.inl (t3 + 6))
      else
        m_rt (.inr 0)
    else if (v4 &&& 63) = 15 then
      m_bd (m_xa L xs (t3 + 1)) fun v93 =>
      m_bd (fn_C_copyRust (some a1) v93) fun v94 =>
      m_bd (m_xa L xs (t3 + 1)) fun v95 =>
      m_bd (fn_M_copyRust (some a2) v95) fun v96 =>
      if v94 = v96 then
        m_rt (.inl (t3 + 6))
      else
        m_rt (.inr 0)
    else if (v4 &&& 63) = 16 then
      m_bd (m_xa L xs (t3 + 1)) fun v97 =>
      m_bd (fn_C_year (some a1) v97) fun v98 =>
      m_bd (m_xa L xs (t3 + 1)) fun v99 =>
      m_bd (fn_M_year (some a2) v99) fun v100 =>
      if v98 = v100 then
        m_rt (.inl (t3 + 6))
      else
        m_rt (.inr 0)
    else if (v4 &&& 63) = 17 then
      m_bd (m_xa L xs (t3 + 1)) fun v101 =>
      m_bd (m_xa L xs (t3 + 2)) fun v102 =>
      m_bd (m_xa L xs (t3 + 3)) fun v103 =>
      m_bd (fn_C_dote (some a1) v101 v102 v103) fun v104 =>
      m_bd (m_xa L xs (t3 + 1)) fun v105 =>
      m_bd (m_xa L xs (t3 + 2)) fun v106 =>
      m_bd (m_xa L xs (t3 + 3)) fun v107 =>
      m_bd (fn_M_dote (some a2) v105 v106 v107) fun v108 =>
      if v104 = v108 then
        m_rt (.inl (t3 + 6))
      else
        m_rt (.inr 0)
    else if (v4 &&& 63) = 18 then
      m_bd (m_xa L xs (t3 + 1)) fun v109 =>
      m_bd (fn_C_oil (some a1) v109) fun v110 =>
      m_bd (m_xa L xs (t3 + 1)) fun v111 =>
      m_bd (fn_M_oil (some a2) v111) fun v112 =>
      if v110 = v112 then
        m_rt (.inl (t3 + 6))
      else
        m_rt (.inr 0)
    else if (v4 &&& 63) = 19 then
      m_bd (m_xa L xs (t3 + 1)) fun v113 =>
      m_bd (m_xa L xs (t3 + 2)) fun v114 =>
      m_bd (fn_C_coat (some a1) v113 v114) fun v115 =>
      m_bd (m_xa L xs (t3 + 1)) fun v116 =>
      m_bd (m_xa L xs (t3 + 2)) fun v117 =>
      m_bd (fn_M_coat (some a2) v116 v117) fun v118 =>
      if v115 = v118 then
        m_rt (.inl (t3 + 6))
      else
        m_rt (.inr 0)
    else if (v4 &&& 63) = 20 then
      m_bd (m_xa L xs (t3 + 1)) fun v119 =>
      m_bd (fn_C_mend (some a1) v119) fun v120 =>
      m_bd (m_xa L xs (t3 + 1)) fun v121 =>
      m_bd (fn_M_mend (some a2) v121) fun v122 =>
      if v120 = v122 then
        m_rt (.inl (t3 + 6))
      else
        m_rt (.inr 0)
    else if (v4 &&& 63) = 21 then
      m_bd (m_xa L xs (t3 + 1)) fun v123 =>
      m_bd (fn_C_breathe (some a1) v123) fun v124 =>
      m_bd (m_xa L xs (t3 + 1)) fun v125 =>
      m_bd (fn_M_breathe (some a2) v125) fun v126 =>
      if v124 = v126 then
        m_rt (.inl (t3 + 6))
      else
        m_rt (.inr 0)
    else if (v4 &&& 63) = 22 then
      m_bd (m_xa L xs (t3 + 1)) fun v127 =>
      m_bd (fn_C_forge (some a1) v127) fun v128 =>
      m_bd (m_xa L xs (t3 + 1)) fun v129 =>
      m_bd (fn_M_forge (some a2) v129) fun v130 =>
      if v128 = v130 then
        m_rt (.inl (t3 + 6))
      else
        m_rt (.inr 0)
    else if (v4 &&& 63) = 23 then
      m_bd (m_xa L xs (t3 + 1)) fun v131 =>
      m_bd (m_xa L xs (t3 + 2)) fun v132 =>
      m_bd (α := Int32) (
        if v132 = 0 then
          m_rt 0
        else
          m_rt 1
        ) fun (t133 : Int32) =>
      m_bd (fn_C_born (some a1) v131 t133) fun v134 =>
      m_bd (m_xa L xs (t3 + 1)) fun v135 =>
      m_bd (m_xa L xs (t3 + 2)) fun v136 =>
      m_bd (α := Int32) (
        if v136 = 0 then
          m_rt 0
        else
          m_rt 1
        ) fun (t137 : Int32) =>
      m_bd (fn_M_born (some a2) v135 t137) fun v138 =>
      if v134 = v138 then
        m_rt (.inl (t3 + 6))
      else
        m_rt (.inr 0)
    else if (v4 &&& 63) = 24 then
      m_bd (m_xa L xs (t3 + 1)) fun v139 =>
      m_bd (m_xa L xs (t3 + 2)) fun v140 =>
      m_bd (fn_C_rule (some a1) v139 v140) fun v141 =>
      m_bd (m_xa L xs (t3 + 1)) fun v142 =>
      m_bd (m_xa L xs (t3 + 2)) fun v143 =>
      m_bd (fn_M_rule (some a2) v142 v143) fun v144 =>
      if v141 = v144 then
        m_rt (.inl (t3 + 6))
      else
        m_rt (.inr 0)
    else if (v4 &&& 63) = 25 then
      m_bd (m_xa L xs (t3 + 1)) fun v145 =>
      m_bd (m_xa L xs (t3 + 2)) fun v146 =>
      m_bd (fn_C_rustIn (some a1) v145 v146) fun v147 =>
      m_bd (m_xa L xs (t3 + 1)) fun v148 =>
      m_bd (m_xa L xs (t3 + 2)) fun v149 =>
      m_bd (fn_M_rustIn (some a2) v148 v149) fun v150 =>
      if v147 = v150 then
        m_rt (.inl (t3 + 6))
      else
        m_rt (.inr 0)
    else if (v4 &&& 63) = 26 then
      m_bd (m_xa L xs (t3 + 1)) fun v151 =>
      m_bd (fn_C_throughIn (some a1) v151) fun v152 =>
      m_bd (m_xa L xs (t3 + 1)) fun v153 =>
      m_bd (fn_M_throughIn (some a2) v153) fun v154 =>
      if v152 = v154 then
        m_rt (.inl (t3 + 6))
      else
        m_rt (.inr 0)
    else if (v4 &&& 63) = 27 then
      m_bd (fn_C_firstThrough (some a1)) fun v155 =>
      m_bd (fn_M_firstThrough (some a2)) fun v156 =>
      if v155 = v156 then
        m_rt (.inl (t3 + 6))
      else
        m_rt (.inr 0)
    else if (v4 &&& 63) = 28 then
      m_bd (m_xa L xs (t3 + 1)) fun v157 =>
      m_bd (fn_C_throughBy (some a1) v157) fun v158 =>
      m_bd (m_xa L xs (t3 + 1)) fun v159 =>
      m_bd (fn_M_throughBy (some a2) v159) fun v160 =>
      if v158 = v160 then
        m_rt (.inl (t3 + 6))
      else
        m_rt (.inr 0)
    else if (v4 &&& 63) = 29 then
      m_bd (m_xa L xs (t3 + 1)) fun v161 =>
      m_bd (fn_C_showsIn (some a1) v161) fun v162 =>
      m_bd (m_xa L xs (t3 + 1)) fun v163 =>
      m_bd (fn_M_showsIn (some a2) v163) fun v164 =>
      if v162 = v164 then
        m_rt (.inl (t3 + 6))
      else
        m_rt (.inr 0)
    else if (v4 &&& 63) = 30 then
      m_bd (m_xa L xs (t3 + 1)) fun v165 =>
      m_bd (fn_C_diesIn (some a1) v165) fun v166 =>
      m_bd (m_xa L xs (t3 + 1)) fun v167 =>
      m_bd (fn_M_diesIn (some a2) v167) fun v168 =>
      if v166 = v168 then
        m_rt (.inl (t3 + 6))
      else
        m_rt (.inr 0)
    else if (v4 &&& 63) = 31 then
      m_bd (m_xa L xs (t3 + 1)) fun v169 =>
      m_bd (fn_C_worst (some a1) v169) fun v170 =>
      m_bd (m_xa L xs (t3 + 1)) fun v171 =>
      m_bd (fn_M_worst (some a2) v171) fun v172 =>
      if v170 = v172 then
        m_rt (.inl (t3 + 6))
      else
        m_rt (.inr 0)
    else if (v4 &&& 63) = 32 then
      m_bd (m_xa L xs (t3 + 1)) fun v173 =>
      m_bd (m_xa L xs (t3 + 2)) fun v174 =>
      m_bd (fn_C_jars (some a1) v173 v174) fun v175 =>
      m_bd (m_xa L xs (t3 + 1)) fun v176 =>
      m_bd (m_xa L xs (t3 + 2)) fun v177 =>
      m_bd (fn_M_jars (some a2) v176 v177) fun v178 =>
      if v175 = v178 then
        m_rt (.inl (t3 + 6))
      else
        m_rt (.inr 0)
    else if (v4 &&& 63) = 33 then
      m_bd (m_xa L xs (t3 + 1)) fun v179 =>
      m_bd (m_xa L xs (t3 + 2)) fun v180 =>
      m_bd (fn_C_jarsFor (some a1) v179 v180) fun v181 =>
      m_bd (m_xa L xs (t3 + 1)) fun v182 =>
      m_bd (m_xa L xs (t3 + 2)) fun v183 =>
      m_bd (fn_M_jarsFor (some a2) v182 v183) fun v184 =>
      if v181 = v184 then
        m_rt (.inl (t3 + 6))
      else
        m_rt (.inr 0)
    else if (v4 &&& 63) = 34 then
      m_bd (m_xa L xs (t3 + 1)) fun v185 =>
      m_bd (m_xa L xs (t3 + 2)) fun v186 =>
      m_bd (m_xa L xs (t3 + 3)) fun v187 =>
      m_bd (fn_C_less (some a1) v185 v186 v187) fun v188 =>
      m_bd (m_xa L xs (t3 + 1)) fun v189 =>
      m_bd (m_xa L xs (t3 + 2)) fun v190 =>
      m_bd (m_xa L xs (t3 + 3)) fun v191 =>
      m_bd (fn_M_less (some a2) v189 v190 v191) fun v192 =>
      if v188 = v192 then
        m_rt (.inl (t3 + 6))
      else
        m_rt (.inr 0)
    else if (v4 &&& 63) = 35 then
      m_bd (m_xa L xs (t3 + 1)) fun v193 =>
      m_bd (m_xa L xs (t3 + 2)) fun v194 =>
      m_bd (fn_C_seen (some a1) v193 v194) fun v195 =>
      m_bd (m_xa L xs (t3 + 1)) fun v196 =>
      m_bd (m_xa L xs (t3 + 2)) fun v197 =>
      m_bd (fn_M_seen (some a2) v196 v197) fun v198 =>
      if v195 = v198 then
        m_rt (.inl (t3 + 6))
      else
        m_rt (.inr 0)
    else if (v4 &&& 63) = 36 then
      m_bd (m_xa L xs (t3 + 1)) fun v199 =>
      m_bd (m_xa L xs (t3 + 2)) fun v200 =>
      m_bd (m_xa L xs (t3 + 3)) fun v201 =>
      m_bd (fn_C_sure (some a1) v199 v200 v201) fun v202 =>
      m_bd (m_xa L xs (t3 + 1)) fun v203 =>
      m_bd (m_xa L xs (t3 + 2)) fun v204 =>
      m_bd (m_xa L xs (t3 + 3)) fun v205 =>
      m_bd (fn_M_sure (some a2) v203 v204 v205) fun v206 =>
      if v202 = v206 then
        m_rt (.inl (t3 + 6))
      else
        m_rt (.inr 0)
    else if (v4 &&& 63) = 37 then
      m_bd (m_xa L xs (t3 + 1)) fun v207 =>
      m_bd (m_xa L xs (t3 + 2)) fun v208 =>
      m_bd (fn_C_ask (some a1) v207 v208) fun v209 =>
      m_bd (m_xa L xs (t3 + 1)) fun v210 =>
      m_bd (m_xa L xs (t3 + 2)) fun v211 =>
      m_bd (fn_M_ask (some a2) v210 v211) fun v212 =>
      if v209 = v212 then
        m_rt (.inl (t3 + 6))
      else
        m_rt (.inr 0)
    else if (v4 &&& 63) = 38 then
      m_bd (m_xa L xs (t3 + 1)) fun v213 =>
      m_bd (fn_C_keeping (some a1) v213) fun v214 =>
      m_bd (m_xa L xs (t3 + 1)) fun v215 =>
      m_bd (fn_M_keeping (some a2) v215) fun v216 =>
      if v214 = v216 then
        m_rt (.inl (t3 + 6))
      else
        m_rt (.inr 0)
    else if (v4 &&& 63) = 39 then
      m_bd (m_xa L xs (t3 + 1)) fun v217 =>
      m_bd (m_xa L xs (t3 + 2)) fun v218 =>
      m_bd (fn_C_keeps (some a1) v217 v218) fun v219 =>
      m_bd (m_xa L xs (t3 + 1)) fun v220 =>
      m_bd (m_xa L xs (t3 + 2)) fun v221 =>
      m_bd (fn_M_keeps (some a2) v220 v221) fun v222 =>
      if v219 = v222 then
        m_rt (.inl (t3 + 6))
      else
        m_rt (.inr 0)
    else if (v4 &&& 63) = 40 then
      m_bd (m_xa L xs (t3 + 1)) fun v223 =>
      m_bd (m_xa L xs (t3 + 2)) fun v224 =>
      m_bd (fn_C_stable (some a1) v223 v224) fun v225 =>
      m_bd (m_xa L xs (t3 + 1)) fun v226 =>
      m_bd (m_xa L xs (t3 + 2)) fun v227 =>
      m_bd (fn_M_stable (some a2) v226 v227) fun v228 =>
      if v225 = v228 then
        m_rt (.inl (t3 + 6))
      else
        m_rt (.inr 0)
    else if (v4 &&& 63) = 41 then
      m_bd (m_xa L xs (t3 + 1)) fun v229 =>
      m_bd (fn_C_stables (some a1) v229) fun v230 =>
      m_bd (m_xa L xs (t3 + 1)) fun v231 =>
      m_bd (fn_M_stables (some a2) v231) fun v232 =>
      if v230 = v232 then
        m_rt (.inl (t3 + 6))
      else
        m_rt (.inr 0)
    else if (v4 &&& 63) = 42 then
      m_bd (m_xa L xs (t3 + 1)) fun v233 =>
      m_bd (m_xa L xs (t3 + 2)) fun v234 =>
      m_bd (m_xa L xs (t3 + 3)) fun v235 =>
      m_bd (fn_C_game (some a1) v233 v234 v235) fun v236 =>
      m_bd (m_xa L xs (t3 + 1)) fun v237 =>
      m_bd (m_xa L xs (t3 + 2)) fun v238 =>
      m_bd (m_xa L xs (t3 + 3)) fun v239 =>
      m_bd (fn_M_game (some a2) v237 v238 v239) fun v240 =>
      if v236 = v240 then
        m_rt (.inl (t3 + 6))
      else
        m_rt (.inr 0)
    else if (v4 &&& 63) = 43 then
      m_bd (m_xa L xs (t3 + 1)) fun v241 =>
      m_bd (m_xa L xs (t3 + 2)) fun v242 =>
      m_bd (m_xa L xs (t3 + 3)) fun v243 =>
      m_bd (fn_C_moveOf (some a1) v241 v242 v243) fun v244 =>
      m_bd (m_xa L xs (t3 + 1)) fun v245 =>
      m_bd (m_xa L xs (t3 + 2)) fun v246 =>
      m_bd (m_xa L xs (t3 + 3)) fun v247 =>
      m_bd (fn_M_moveOf (some a2) v245 v246 v247) fun v248 =>
      if v244 = v248 then
        m_rt (.inl (t3 + 6))
      else
        m_rt (.inr 0)
    else if (v4 &&& 63) = 44 then
      m_bd (m_xa L xs (t3 + 1)) fun v249 =>
      m_bd (m_xa L xs (t3 + 2)) fun v250 =>
      m_bd (fn_C_lasts (some a1) v249 v250) fun v251 =>
      m_bd (m_xa L xs (t3 + 1)) fun v252 =>
      m_bd (m_xa L xs (t3 + 2)) fun v253 =>
      m_bd (fn_M_lasts (some a2) v252 v253) fun v254 =>
      if v251 = v254 then
        m_rt (.inl (t3 + 6))
      else
        m_rt (.inr 0)
    else if (v4 &&& 63) = 45 then
      m_bd (m_xa L xs (t3 + 1)) fun v255 =>
      m_bd (m_xa L xs (t3 + 2)) fun v256 =>
      m_bd (m_xa L xs (t3 + 3)) fun v257 =>
      m_bd (fn_C_thickFor (some a1) v255 v256 v257) fun v258 =>
      m_bd (m_xa L xs (t3 + 1)) fun v259 =>
      m_bd (m_xa L xs (t3 + 2)) fun v260 =>
      m_bd (m_xa L xs (t3 + 3)) fun v261 =>
      m_bd (fn_M_thickFor (some a2) v259 v260 v261) fun v262 =>
      if v258 = v262 then
        m_rt (.inl (t3 + 6))
      else
        m_rt (.inr 0)
    else if (v4 &&& 63) = 46 then
      m_bd (m_xa L xs (t3 + 1)) fun v263 =>
      m_bd (fn_C_blame (some a1) v263) fun v264 =>
      m_bd (m_xa L xs (t3 + 1)) fun v265 =>
      m_bd (fn_M_blame (some a2) v265) fun v266 =>
      if v264 = v266 then
        m_rt (.inl (t3 + 6))
      else
        m_rt (.inr 0)
    else if (v4 &&& 63) = 47 then
      m_bd (m_xa L xs (t3 + 1)) fun v267 =>
      m_bd (fn_C_live (some a1) v267) fun v268 =>
      m_bd (m_xa L xs (t3 + 1)) fun v269 =>
      m_bd (fn_M_live (some a2) v269) fun v270 =>
      if v268 = v270 then
        m_rt (.inl (t3 + 6))
      else
        m_rt (.inr 0)
    else if (v4 &&& 63) = 48 then
      m_bd (m_xa L xs (t3 + 1)) fun v271 =>
      m_bd (fn_C_lived (some a1) v271) fun v272 =>
      m_bd (m_xa L xs (t3 + 1)) fun v273 =>
      m_bd (fn_M_lived (some a2) v273) fun v274 =>
      if v272 = v274 then
        m_rt (.inl (t3 + 6))
      else
        m_rt (.inr 0)
    else if (v4 &&& 63) = 49 then
      m_bd (m_xa L xs (t3 + 1)) fun v275 =>
      m_bd (m_xa L xs (t3 + 2)) fun v276 =>
      m_bd (fn_C_mean (some a1) v275 v276) fun v277 =>
      m_bd (m_xa L xs (t3 + 1)) fun v278 =>
      m_bd (m_xa L xs (t3 + 2)) fun v279 =>
      m_bd (fn_M_mean (some a2) v278 v279) fun v280 =>
      if v277 = v280 then
        m_rt (.inl (t3 + 6))
      else
        m_rt (.inr 0)
    else if (v4 &&& 63) = 50 then
      m_bd (fn_C_mark (some a1)) fun v281 =>
      m_bd (fn_M_mark (some a2)) fun v282 =>
      if v281 = v282 then
        m_rt (.inl (t3 + 6))
      else
        m_rt (.inr 0)
    else if (v4 &&& 63) = 51 then
      m_bd (fn_C_back (some a1)) fun v283 =>
      m_bd (fn_M_back (some a2)) fun v284 =>
      if v283 = v284 then
        m_rt (.inl (t3 + 6))
      else
        m_rt (.inr 0)
    else
      m_rt (.inl (t3 + 6))
def fn_L_law (b : Nat) (L : Nat) (xs : Nat → Int32) : mP Int32 :=
  m_bd (m_new 0) fun a1 =>
  m_bd (fn_C_init a1) fun _ =>
  m_bd (m_new 11) fun a2 =>
  m_bd (fn_M_init a2) fun _ =>
  m_lp (fn_L_law_l18 L xs a1 a2) m_F 0
set_option maxHeartbeats 4000000 in
set_option maxRecDepth 100000 in
theorem sd_L_law (b : Nat) (L : Nat) (xs : Nat → Int32) : m_Sm (k_L b L xs) 27 155129 1568678 [.inr (.inr (some (0, b, 2)))] (fn_L_law b L xs) (fun b => some (.inl b)) := by
  refine ⟨Nat.le_of_ble_eq_true rfl, ?_⟩
  refine sm_new (mc := 155128) (ms := 1568662) (pc' := 3) d_L_law_0 rfl nw_L_7 rfl rfl (fun a1 => ?_)
  refine sm_dup (pc' := 4) d_L_law_3 rfl rfl (sm_callI (av := []) (x := (some a1)) (st := [.inr (.inr (some a1))]) (mc := 155019) (ms := 1565545) (pc' := 7) d_L_law_4 rfl (sd_C_init a1) (fun _ _ _ => rfl) ci_C_init (Or.inl w_ml_L_9) rfl rfl (by decide) (Nat.le_of_ble_eq_true rfl) rfl rfl (sm_astore_n (i := 1) (L' := [(1, .inr (.inr (some a1))), (0, .inr (.inr (some (0, b, 2))))]) (pc' := 8) d_L_law_7 rfl rfl (Nat.le_of_ble_eq_true rfl) rfl ?_))
  refine sm_new (mc := 155018) (ms := 1565494) (pc' := 11) d_L_law_8 rfl nw_L_10 rfl rfl (fun a2 => ?_)
  refine sm_dup (pc' := 12) d_L_law_11 rfl rfl (sm_callI (av := []) (x := (some a2)) (st := [.inr (.inr (some a2))]) (mc := 155000) (ms := 1560000) (pc' := 15) d_L_law_12 rfl (sd_M_init a2) (fun _ _ _ => rfl) ci_M_init (Or.inl w_ml_L_12) rfl rfl (by decide) (Nat.le_of_ble_eq_true rfl) rfl rfl (sm_astore_n (i := 2) (L' := [(2, .inr (.inr (some a2))), (1, .inr (.inr (some a1))), (0, .inr (.inr (some (0, b, 2))))]) (pc' := 16) d_L_law_15 rfl rfl (Nat.le_of_ble_eq_true rfl) rfl (sm_iconst (pc' := 17) d_L_law_16 rfl ic_0 (sm_istore_n (i := 3) (L' := [(3, .inl 0), (2, .inr (.inr (some a2))), (1, .inr (.inr (some a1))), (0, .inr (.inr (some (0, b, 2))))]) (pc' := 18) d_L_law_17 rfl rfl (Nat.le_of_ble_eq_true rfl) rfl ?_))))
  refine sm_sub [0, 3, 2, 1] rfl ?_
  refine sm_lpA (mcb := 31) (msb := 312) (hd := fun (t3 : Int32) => (.inl (18, [(3, .inl t3), (0, .inr (.inr (some (0, b, 2)))), (1, .inr (.inr (some a1))), (2, .inr (.inr (some a2)))], []) : mC)) (fun t3 => ?_) m_F 0 rfl rfl
  refine sm_iload_n (i := 3) (j := 0) (pc' := 19) d_L_law_18 rfl rfl rfl (sm_aload_n (i := 0) (j := 1) (pc' := 20) d_L_law_19 rfl rfl rfl (sm_xal (pc' := 21) d_L_law_20 rfl (sm_bipush (pc' := 23) d_L_law_21 rfl ib_6 (sm_isub (pc' := 24) d_L_law_23 rfl ?_))))
  refine sm_icmp_gt (tgt := 1847) (pc' := 27) d_L_law_24 rfl rfl ?_ ?_
  · refine sm_wid (mc' := 0) (ms' := 0) (by decide) (by decide) ?_
    refine sm_iconst (pc' := 1848) d_L_law_1847 rfl ic_1 ?_
    exact sm_zreturn d_L_law_1848 rfl (by decide) rfl
  · refine sm_aload_n (i := 0) (j := 1) (pc' := 28) d_L_law_27 rfl rfl rfl (sm_iload_n (i := 3) (j := 0) (pc' := 29) d_L_law_28 rfl rfl rfl ?_)
    refine sm_xld (pc' := 30) d_L_law_29 rfl (fun v4 => ?_)
    refine sm_bipush (pc' := 32) d_L_law_30 rfl ib_63 (sm_iand (pc' := 33) d_L_law_32 rfl ?_)
    refine sm_ite (fun hs33_0 => ?_) (fun hs33_0 => ?_)
    · refine sm_tabIn (off := 223) (tgt := 256) d_L_law_33 (by rw [hs33_0]; decide) (by rw [hs33_0]; decide) (by rw [hs33_0]; rfl) rfl ?_
      refine sm_wid (mc' := 0) (ms' := 0) (by decide) (by decide) ?_
      refine sm_aload_n (i := 1) (j := 2) (pc' := 257) d_L_law_256 rfl rfl rfl ?_
      refine sm_callVi (ci := 0) (x := (some a1)) (av := []) (st := []) (mc := 0) (ms := 0) (pc' := 260) d_L_law_257 rfl (sd_C_status (some a1)) m_lv rfl cv_C_status w_ml_L_13 rfl rfl (by decide) (Nat.le_of_ble_eq_true rfl) rfl rfl (fun v5 => ?_)
      refine sm_aload_n (i := 2) (j := 3) (pc' := 261) d_L_law_260 rfl rfl rfl ?_
      refine sm_callVi (ci := 11) (x := (some a2)) (av := []) (st := [.inl v5]) (mc := 0) (ms := 0) (pc' := 264) d_L_law_261 rfl (sd_M_status (some a2)) m_lv rfl cv_M_status w_ml_L_17 rfl rfl (by decide) (Nat.le_of_ble_eq_true rfl) rfl rfl (fun v6 => ?_)
      refine sm_icmp_eq (tgt := 1841) (pc' := 267) d_L_law_264 rfl rfl ?_ ?_
      · refine sm_iinc (j := 0) (L' := [(3, .inl (t3 + 6)), (0, .inr (.inr (some (0, b, 2)))), (1, .inr (.inr (some a1))), (2, .inr (.inr (some a2)))]) (pc' := 1844) d_L_law_1841 rfl (v := (t3 + 6)) rfl (ix_6 _) (Nat.le_of_ble_eq_true rfl) rfl (sm_goto (tgt := 18) d_L_law_1844 rfl (sm_sub [0, 1, 2, 3] rfl ?_))
        exact sm_rt rfl
      · refine sm_iconst (pc' := 268) d_L_law_267 rfl ic_0 ?_
        exact sm_zreturn d_L_law_268 rfl (by decide) rfl
    refine sm_ite (fun hs33_1 => ?_) (fun hs33_1 => ?_)
    · refine sm_tabIn (off := 236) (tgt := 269) d_L_law_33 (by rw [hs33_1]; decide) (by rw [hs33_1]; decide) (by rw [hs33_1]; rfl) rfl ?_
      refine sm_wid (mc' := 0) (ms' := 0) (by decide) (by decide) ?_
      refine sm_aload_n (i := 1) (j := 2) (pc' := 270) d_L_law_269 rfl rfl rfl ?_
      refine sm_callVj (ci := 0) (x := (some a1)) (av := []) (st := []) (mc := 0) (ms := 0) (pc' := 273) d_L_law_270 rfl (sd_C_top (some a1)) m_lv rfl cv_C_top w_ml_L_18 rfl rfl (by decide) (Nat.le_of_ble_eq_true rfl) rfl rfl (fun v7 => ?_)
      refine sm_aload_n (i := 2) (j := 3) (pc' := 274) d_L_law_273 rfl rfl rfl ?_
      refine sm_callVj (ci := 11) (x := (some a2)) (av := []) (st := [.inr (.inl v7)]) (mc := 0) (ms := 0) (pc' := 277) d_L_law_274 rfl (sd_M_top (some a2)) m_lv rfl cv_M_top w_ml_L_22 rfl rfl (by decide) (Nat.le_of_ble_eq_true rfl) rfl rfl (fun v8 => ?_)
      refine sm_lcmp (pc' := 278) d_L_law_277 rfl ?_
      refine sm_if_eq (tgt := 1841) (pc' := 281) d_L_law_278 rfl rfl ?_ ?_
      · refine sm_iinc (j := 0) (L' := [(3, .inl (t3 + 6)), (0, .inr (.inr (some (0, b, 2)))), (1, .inr (.inr (some a1))), (2, .inr (.inr (some a2)))]) (pc' := 1844) d_L_law_1841 rfl (v := (t3 + 6)) rfl (ix_6 _) (Nat.le_of_ble_eq_true rfl) rfl (sm_goto (tgt := 18) d_L_law_1844 rfl (sm_sub [0, 1, 2, 3] rfl ?_))
        exact sm_rt rfl
      · refine sm_iconst (pc' := 282) d_L_law_281 rfl ic_0 ?_
        exact sm_zreturn d_L_law_282 rfl (by decide) rfl
    refine sm_ite (fun hs33_2 => ?_) (fun hs33_2 => ?_)
    · refine sm_tabIn (off := 250) (tgt := 283) d_L_law_33 (by rw [hs33_2]; decide) (by rw [hs33_2]; decide) (by rw [hs33_2]; rfl) rfl ?_
      refine sm_wid (mc' := 0) (ms' := 0) (by decide) (by decide) ?_
      refine sm_aload_n (i := 1) (j := 2) (pc' := 284) d_L_law_283 rfl rfl rfl ?_
      refine sm_callVj (ci := 0) (x := (some a1)) (av := []) (st := []) (mc := 0) (ms := 0) (pc' := 287) d_L_law_284 rfl (sd_C_bottom (some a1)) m_lv rfl cv_C_bottom w_ml_L_23 rfl rfl (by decide) (Nat.le_of_ble_eq_true rfl) rfl rfl (fun v9 => ?_)
      refine sm_aload_n (i := 2) (j := 3) (pc' := 288) d_L_law_287 rfl rfl rfl ?_
      refine sm_callVj (ci := 11) (x := (some a2)) (av := []) (st := [.inr (.inl v9)]) (mc := 0) (ms := 0) (pc' := 291) d_L_law_288 rfl (sd_M_bottom (some a2)) m_lv rfl cv_M_bottom w_ml_L_26 rfl rfl (by decide) (Nat.le_of_ble_eq_true rfl) rfl rfl (fun v10 => ?_)
      refine sm_lcmp (pc' := 292) d_L_law_291 rfl ?_
      refine sm_if_eq (tgt := 1841) (pc' := 295) d_L_law_292 rfl rfl ?_ ?_
      · refine sm_iinc (j := 0) (L' := [(3, .inl (t3 + 6)), (0, .inr (.inr (some (0, b, 2)))), (1, .inr (.inr (some a1))), (2, .inr (.inr (some a2)))]) (pc' := 1844) d_L_law_1841 rfl (v := (t3 + 6)) rfl (ix_6 _) (Nat.le_of_ble_eq_true rfl) rfl (sm_goto (tgt := 18) d_L_law_1844 rfl (sm_sub [0, 1, 2, 3] rfl ?_))
        exact sm_rt rfl
      · refine sm_iconst (pc' := 296) d_L_law_295 rfl ic_0 ?_
        exact sm_zreturn d_L_law_296 rfl (by decide) rfl
    refine sm_ite (fun hs33_3 => ?_) (fun hs33_3 => ?_)
    · refine sm_tabIn (off := 264) (tgt := 297) d_L_law_33 (by rw [hs33_3]; decide) (by rw [hs33_3]; decide) (by rw [hs33_3]; rfl) rfl ?_
      refine sm_wid (mc' := 0) (ms' := 0) (by decide) (by decide) ?_
      refine sm_aload_n (i := 1) (j := 2) (pc' := 298) d_L_law_297 rfl rfl rfl (sm_aload_n (i := 0) (j := 1) (pc' := 299) d_L_law_298 rfl rfl rfl (sm_iload_n (i := 3) (j := 0) (pc' := 300) d_L_law_299 rfl rfl rfl (sm_iconst (pc' := 301) d_L_law_300 rfl ic_1 (sm_iadd (pc' := 302) d_L_law_301 rfl ?_))))
      refine sm_xld (pc' := 303) d_L_law_302 rfl (fun v11 => ?_)
      refine sm_aload_n (i := 0) (j := 1) (pc' := 304) d_L_law_303 rfl rfl rfl (sm_iload_n (i := 3) (j := 0) (pc' := 305) d_L_law_304 rfl rfl rfl (sm_iconst (pc' := 306) d_L_law_305 rfl ic_2 (sm_iadd (pc' := 307) d_L_law_306 rfl ?_)))
      refine sm_xld (pc' := 308) d_L_law_307 rfl (fun v12 => ?_)
      refine sm_aload_n (i := 0) (j := 1) (pc' := 309) d_L_law_308 rfl rfl rfl (sm_iload_n (i := 3) (j := 0) (pc' := 310) d_L_law_309 rfl rfl rfl (sm_iconst (pc' := 311) d_L_law_310 rfl ic_3 (sm_iadd (pc' := 312) d_L_law_311 rfl ?_)))
      refine sm_xld (pc' := 313) d_L_law_312 rfl (fun v13 => ?_)
      refine sm_callVi (ci := 0) (x := (some a1)) (av := [.inl v11, .inl v12, .inl v13]) (st := []) (mc := 0) (ms := 0) (pc' := 316) d_L_law_313 rfl (sd_C_tray (some a1) v11 v12 v13) m_lv rfl cv_C_tray w_ml_L_27 rfl rfl (by decide) (Nat.le_of_ble_eq_true rfl) rfl rfl (fun v14 => ?_)
      refine sm_aload_n (i := 2) (j := 3) (pc' := 317) d_L_law_316 rfl rfl rfl (sm_aload_n (i := 0) (j := 1) (pc' := 318) d_L_law_317 rfl rfl rfl (sm_iload_n (i := 3) (j := 0) (pc' := 319) d_L_law_318 rfl rfl rfl (sm_iconst (pc' := 320) d_L_law_319 rfl ic_1 (sm_iadd (pc' := 321) d_L_law_320 rfl ?_))))
      refine sm_xld (pc' := 322) d_L_law_321 rfl (fun v15 => ?_)
      refine sm_aload_n (i := 0) (j := 1) (pc' := 323) d_L_law_322 rfl rfl rfl (sm_iload_n (i := 3) (j := 0) (pc' := 324) d_L_law_323 rfl rfl rfl (sm_iconst (pc' := 325) d_L_law_324 rfl ic_2 (sm_iadd (pc' := 326) d_L_law_325 rfl ?_)))
      refine sm_xld (pc' := 327) d_L_law_326 rfl (fun v16 => ?_)
      refine sm_aload_n (i := 0) (j := 1) (pc' := 328) d_L_law_327 rfl rfl rfl (sm_iload_n (i := 3) (j := 0) (pc' := 329) d_L_law_328 rfl rfl rfl (sm_iconst (pc' := 330) d_L_law_329 rfl ic_3 (sm_iadd (pc' := 331) d_L_law_330 rfl ?_)))
      refine sm_xld (pc' := 332) d_L_law_331 rfl (fun v17 => ?_)
      refine sm_callVi (ci := 11) (x := (some a2)) (av := [.inl v15, .inl v16, .inl v17]) (st := [.inl v14]) (mc := 0) (ms := 0) (pc' := 335) d_L_law_332 rfl (sd_M_tray (some a2) v15 v16 v17) m_lv rfl cv_M_tray w_ml_L_31 rfl rfl (by decide) (Nat.le_of_ble_eq_true rfl) rfl rfl (fun v18 => ?_)
      refine sm_icmp_eq (tgt := 1841) (pc' := 338) d_L_law_335 rfl rfl ?_ ?_
      · refine sm_iinc (j := 0) (L' := [(3, .inl (t3 + 6)), (0, .inr (.inr (some (0, b, 2)))), (1, .inr (.inr (some a1))), (2, .inr (.inr (some a2)))]) (pc' := 1844) d_L_law_1841 rfl (v := (t3 + 6)) rfl (ix_6 _) (Nat.le_of_ble_eq_true rfl) rfl (sm_goto (tgt := 18) d_L_law_1844 rfl (sm_sub [0, 1, 2, 3] rfl ?_))
        exact sm_rt rfl
      · refine sm_iconst (pc' := 339) d_L_law_338 rfl ic_0 ?_
        exact sm_zreturn d_L_law_339 rfl (by decide) rfl
    refine sm_ite (fun hs33_4 => ?_) (fun hs33_4 => ?_)
    · refine sm_tabIn (off := 307) (tgt := 340) d_L_law_33 (by rw [hs33_4]; decide) (by rw [hs33_4]; decide) (by rw [hs33_4]; rfl) rfl ?_
      refine sm_wid (mc' := 0) (ms' := 0) (by decide) (by decide) ?_
      refine sm_aload_n (i := 1) (j := 2) (pc' := 341) d_L_law_340 rfl rfl rfl (sm_aload_n (i := 0) (j := 1) (pc' := 342) d_L_law_341 rfl rfl rfl (sm_iload_n (i := 3) (j := 0) (pc' := 343) d_L_law_342 rfl rfl rfl (sm_iconst (pc' := 344) d_L_law_343 rfl ic_1 (sm_iadd (pc' := 345) d_L_law_344 rfl ?_))))
      refine sm_xld (pc' := 346) d_L_law_345 rfl (fun v19 => ?_)
      refine sm_aload_n (i := 0) (j := 1) (pc' := 347) d_L_law_346 rfl rfl rfl (sm_iload_n (i := 3) (j := 0) (pc' := 348) d_L_law_347 rfl rfl rfl (sm_iconst (pc' := 349) d_L_law_348 rfl ic_2 (sm_iadd (pc' := 350) d_L_law_349 rfl ?_)))
      refine sm_xld (pc' := 351) d_L_law_350 rfl (fun v20 => ?_)
      refine sm_aload_n (i := 0) (j := 1) (pc' := 352) d_L_law_351 rfl rfl rfl (sm_iload_n (i := 3) (j := 0) (pc' := 353) d_L_law_352 rfl rfl rfl (sm_iconst (pc' := 354) d_L_law_353 rfl ic_3 (sm_iadd (pc' := 355) d_L_law_354 rfl ?_)))
      refine sm_xld (pc' := 356) d_L_law_355 rfl (fun v21 => ?_)
      refine sm_i2l (pc' := 357) d_L_law_356 rfl (sm_bipush (pc' := 359) d_L_law_357 rfl ib_32 (sm_lshl (v := ((v21).toInt64 <<< ((32 : Int32).toInt64 &&& 63))) (pc' := 360) d_L_law_359 rfl rfl (sm_aload_n (i := 0) (j := 1) (pc' := 361) d_L_law_360 rfl rfl rfl (sm_iload_n (i := 3) (j := 0) (pc' := 362) d_L_law_361 rfl rfl rfl (sm_iconst (pc' := 363) d_L_law_362 rfl ic_4 (sm_iadd (pc' := 364) d_L_law_363 rfl ?_))))))
      refine sm_xld (pc' := 365) d_L_law_364 rfl (fun v22 => ?_)
      refine sm_i2l (pc' := 366) d_L_law_365 rfl (sm_ldc2 (v := 4294967295) (pc' := 369) d_L_law_366 rfl w_cl_L_32 (sm_land (pc' := 370) d_L_law_369 rfl (sm_lor (pc' := 371) d_L_law_370 rfl ?_)))
      refine sm_callVi (ci := 0) (x := (some a1)) (av := [.inl v19, .inl v20, .inr (.inl (((v21).toInt64 <<< ((32 : Int32).toInt64 &&& 63)) ||| ((v22).toInt64 &&& 4294967295)))]) (st := []) (mc := 0) (ms := 0) (pc' := 374) d_L_law_371 rfl (sd_C_write (some a1) v19 v20 (((v21).toInt64 <<< ((32 : Int32).toInt64 &&& 63)) ||| ((v22).toInt64 &&& 4294967295))) m_lv rfl cv_C_write w_ml_L_34 rfl rfl (by decide) (Nat.le_of_ble_eq_true rfl) rfl rfl (fun v23 => ?_)
      refine sm_aload_n (i := 2) (j := 3) (pc' := 375) d_L_law_374 rfl rfl rfl (sm_aload_n (i := 0) (j := 1) (pc' := 376) d_L_law_375 rfl rfl rfl (sm_iload_n (i := 3) (j := 0) (pc' := 377) d_L_law_376 rfl rfl rfl (sm_iconst (pc' := 378) d_L_law_377 rfl ic_1 (sm_iadd (pc' := 379) d_L_law_378 rfl ?_))))
      refine sm_xld (pc' := 380) d_L_law_379 rfl (fun v24 => ?_)
      refine sm_aload_n (i := 0) (j := 1) (pc' := 381) d_L_law_380 rfl rfl rfl (sm_iload_n (i := 3) (j := 0) (pc' := 382) d_L_law_381 rfl rfl rfl (sm_iconst (pc' := 383) d_L_law_382 rfl ic_2 (sm_iadd (pc' := 384) d_L_law_383 rfl ?_)))
      refine sm_xld (pc' := 385) d_L_law_384 rfl (fun v25 => ?_)
      refine sm_aload_n (i := 0) (j := 1) (pc' := 386) d_L_law_385 rfl rfl rfl (sm_iload_n (i := 3) (j := 0) (pc' := 387) d_L_law_386 rfl rfl rfl (sm_iconst (pc' := 388) d_L_law_387 rfl ic_3 (sm_iadd (pc' := 389) d_L_law_388 rfl ?_)))
      refine sm_xld (pc' := 390) d_L_law_389 rfl (fun v26 => ?_)
      refine sm_i2l (pc' := 391) d_L_law_390 rfl (sm_bipush (pc' := 393) d_L_law_391 rfl ib_32 (sm_lshl (v := ((v26).toInt64 <<< ((32 : Int32).toInt64 &&& 63))) (pc' := 394) d_L_law_393 rfl rfl (sm_aload_n (i := 0) (j := 1) (pc' := 395) d_L_law_394 rfl rfl rfl (sm_iload_n (i := 3) (j := 0) (pc' := 396) d_L_law_395 rfl rfl rfl (sm_iconst (pc' := 397) d_L_law_396 rfl ic_4 (sm_iadd (pc' := 398) d_L_law_397 rfl ?_))))))
      refine sm_xld (pc' := 399) d_L_law_398 rfl (fun v27 => ?_)
      refine sm_i2l (pc' := 400) d_L_law_399 rfl (sm_ldc2 (v := 4294967295) (pc' := 403) d_L_law_400 rfl w_cl_L_32 (sm_land (pc' := 404) d_L_law_403 rfl (sm_lor (pc' := 405) d_L_law_404 rfl ?_)))
      refine sm_callVi (ci := 11) (x := (some a2)) (av := [.inl v24, .inl v25, .inr (.inl (((v26).toInt64 <<< ((32 : Int32).toInt64 &&& 63)) ||| ((v27).toInt64 &&& 4294967295)))]) (st := [.inl v23]) (mc := 0) (ms := 0) (pc' := 408) d_L_law_405 rfl (sd_M_write (some a2) v24 v25 (((v26).toInt64 <<< ((32 : Int32).toInt64 &&& 63)) ||| ((v27).toInt64 &&& 4294967295))) m_lv rfl cv_M_write w_ml_L_38 rfl rfl (by decide) (Nat.le_of_ble_eq_true rfl) rfl rfl (fun v28 => ?_)
      refine sm_icmp_eq (tgt := 1841) (pc' := 411) d_L_law_408 rfl rfl ?_ ?_
      · refine sm_iinc (j := 0) (L' := [(3, .inl (t3 + 6)), (0, .inr (.inr (some (0, b, 2)))), (1, .inr (.inr (some a1))), (2, .inr (.inr (some a2)))]) (pc' := 1844) d_L_law_1841 rfl (v := (t3 + 6)) rfl (ix_6 _) (Nat.le_of_ble_eq_true rfl) rfl (sm_goto (tgt := 18) d_L_law_1844 rfl (sm_sub [0, 1, 2, 3] rfl ?_))
        exact sm_rt rfl
      · refine sm_iconst (pc' := 412) d_L_law_411 rfl ic_0 ?_
        exact sm_zreturn d_L_law_412 rfl (by decide) rfl
    refine sm_ite (fun hs33_5 => ?_) (fun hs33_5 => ?_)
    · refine sm_tabIn (off := 380) (tgt := 413) d_L_law_33 (by rw [hs33_5]; decide) (by rw [hs33_5]; decide) (by rw [hs33_5]; rfl) rfl ?_
      refine sm_wid (mc' := 0) (ms' := 0) (by decide) (by decide) ?_
      refine sm_aload_n (i := 1) (j := 2) (pc' := 414) d_L_law_413 rfl rfl rfl (sm_aload_n (i := 0) (j := 1) (pc' := 415) d_L_law_414 rfl rfl rfl (sm_iload_n (i := 3) (j := 0) (pc' := 416) d_L_law_415 rfl rfl rfl (sm_iconst (pc' := 417) d_L_law_416 rfl ic_1 (sm_iadd (pc' := 418) d_L_law_417 rfl ?_))))
      refine sm_xld (pc' := 419) d_L_law_418 rfl (fun v29 => ?_)
      refine sm_aload_n (i := 0) (j := 1) (pc' := 420) d_L_law_419 rfl rfl rfl (sm_iload_n (i := 3) (j := 0) (pc' := 421) d_L_law_420 rfl rfl rfl (sm_iconst (pc' := 422) d_L_law_421 rfl ic_2 (sm_iadd (pc' := 423) d_L_law_422 rfl ?_)))
      refine sm_xld (pc' := 424) d_L_law_423 rfl (fun v30 => ?_)
      refine sm_callVj (ci := 0) (x := (some a1)) (av := [.inl v29, .inl v30]) (st := []) (mc := 0) (ms := 0) (pc' := 427) d_L_law_424 rfl (sd_C_read (some a1) v29 v30) m_lv rfl cv_C_read w_ml_L_39 rfl rfl (by decide) (Nat.le_of_ble_eq_true rfl) rfl rfl (fun v31 => ?_)
      refine sm_aload_n (i := 2) (j := 3) (pc' := 428) d_L_law_427 rfl rfl rfl (sm_aload_n (i := 0) (j := 1) (pc' := 429) d_L_law_428 rfl rfl rfl (sm_iload_n (i := 3) (j := 0) (pc' := 430) d_L_law_429 rfl rfl rfl (sm_iconst (pc' := 431) d_L_law_430 rfl ic_1 (sm_iadd (pc' := 432) d_L_law_431 rfl ?_))))
      refine sm_xld (pc' := 433) d_L_law_432 rfl (fun v32 => ?_)
      refine sm_aload_n (i := 0) (j := 1) (pc' := 434) d_L_law_433 rfl rfl rfl (sm_iload_n (i := 3) (j := 0) (pc' := 435) d_L_law_434 rfl rfl rfl (sm_iconst (pc' := 436) d_L_law_435 rfl ic_2 (sm_iadd (pc' := 437) d_L_law_436 rfl ?_)))
      refine sm_xld (pc' := 438) d_L_law_437 rfl (fun v33 => ?_)
      refine sm_callVj (ci := 11) (x := (some a2)) (av := [.inl v32, .inl v33]) (st := [.inr (.inl v31)]) (mc := 0) (ms := 0) (pc' := 441) d_L_law_438 rfl (sd_M_read (some a2) v32 v33) m_lv rfl cv_M_read w_ml_L_43 rfl rfl (by decide) (Nat.le_of_ble_eq_true rfl) rfl rfl (fun v34 => ?_)
      refine sm_lcmp (pc' := 442) d_L_law_441 rfl ?_
      refine sm_if_eq (tgt := 1841) (pc' := 445) d_L_law_442 rfl rfl ?_ ?_
      · refine sm_iinc (j := 0) (L' := [(3, .inl (t3 + 6)), (0, .inr (.inr (some (0, b, 2)))), (1, .inr (.inr (some a1))), (2, .inr (.inr (some a2)))]) (pc' := 1844) d_L_law_1841 rfl (v := (t3 + 6)) rfl (ix_6 _) (Nat.le_of_ble_eq_true rfl) rfl (sm_goto (tgt := 18) d_L_law_1844 rfl (sm_sub [0, 1, 2, 3] rfl ?_))
        exact sm_rt rfl
      · refine sm_iconst (pc' := 446) d_L_law_445 rfl ic_0 ?_
        exact sm_zreturn d_L_law_446 rfl (by decide) rfl
    refine sm_ite (fun hs33_6 => ?_) (fun hs33_6 => ?_)
    · refine sm_tabIn (off := 414) (tgt := 447) d_L_law_33 (by rw [hs33_6]; decide) (by rw [hs33_6]; decide) (by rw [hs33_6]; rfl) rfl ?_
      refine sm_wid (mc' := 0) (ms' := 0) (by decide) (by decide) ?_
      refine sm_aload_n (i := 1) (j := 2) (pc' := 448) d_L_law_447 rfl rfl rfl (sm_aload_n (i := 0) (j := 1) (pc' := 449) d_L_law_448 rfl rfl rfl (sm_iload_n (i := 3) (j := 0) (pc' := 450) d_L_law_449 rfl rfl rfl (sm_iconst (pc' := 451) d_L_law_450 rfl ic_1 (sm_iadd (pc' := 452) d_L_law_451 rfl ?_))))
      refine sm_xld (pc' := 453) d_L_law_452 rfl (fun v35 => ?_)
      refine sm_aload_n (i := 0) (j := 1) (pc' := 454) d_L_law_453 rfl rfl rfl (sm_iload_n (i := 3) (j := 0) (pc' := 455) d_L_law_454 rfl rfl rfl (sm_iconst (pc' := 456) d_L_law_455 rfl ic_2 (sm_iadd (pc' := 457) d_L_law_456 rfl ?_)))
      refine sm_xld (pc' := 458) d_L_law_457 rfl (fun v36 => ?_)
      refine sm_aload_n (i := 0) (j := 1) (pc' := 459) d_L_law_458 rfl rfl rfl (sm_iload_n (i := 3) (j := 0) (pc' := 460) d_L_law_459 rfl rfl rfl (sm_iconst (pc' := 461) d_L_law_460 rfl ic_3 (sm_iadd (pc' := 462) d_L_law_461 rfl ?_)))
      refine sm_xld (pc' := 463) d_L_law_462 rfl (fun v37 => ?_)
      refine sm_aload_n (i := 0) (j := 1) (pc' := 464) d_L_law_463 rfl rfl rfl (sm_iload_n (i := 3) (j := 0) (pc' := 465) d_L_law_464 rfl rfl rfl (sm_iconst (pc' := 466) d_L_law_465 rfl ic_4 (sm_iadd (pc' := 467) d_L_law_466 rfl ?_)))
      refine sm_xld (pc' := 468) d_L_law_467 rfl (fun v38 => ?_)
      refine sm_aload_n (i := 0) (j := 1) (pc' := 469) d_L_law_468 rfl rfl rfl (sm_iload_n (i := 3) (j := 0) (pc' := 470) d_L_law_469 rfl rfl rfl (sm_iconst (pc' := 471) d_L_law_470 rfl ic_5 (sm_iadd (pc' := 472) d_L_law_471 rfl ?_)))
      refine sm_xld (pc' := 473) d_L_law_472 rfl (fun v39 => ?_)
      refine sm_callVi (ci := 0) (x := (some a1)) (av := [.inl v35, .inl v36, .inl v37, .inl v38, .inl v39]) (st := []) (mc := 0) (ms := 0) (pc' := 476) d_L_law_473 rfl (sd_C_pour (some a1) v35 v36 v37 v38 v39) m_lv rfl cv_C_pour w_ml_L_44 rfl rfl (by decide) (Nat.le_of_ble_eq_true rfl) rfl rfl (fun v40 => ?_)
      refine sm_aload_n (i := 2) (j := 3) (pc' := 477) d_L_law_476 rfl rfl rfl (sm_aload_n (i := 0) (j := 1) (pc' := 478) d_L_law_477 rfl rfl rfl (sm_iload_n (i := 3) (j := 0) (pc' := 479) d_L_law_478 rfl rfl rfl (sm_iconst (pc' := 480) d_L_law_479 rfl ic_1 (sm_iadd (pc' := 481) d_L_law_480 rfl ?_))))
      refine sm_xld (pc' := 482) d_L_law_481 rfl (fun v41 => ?_)
      refine sm_aload_n (i := 0) (j := 1) (pc' := 483) d_L_law_482 rfl rfl rfl (sm_iload_n (i := 3) (j := 0) (pc' := 484) d_L_law_483 rfl rfl rfl (sm_iconst (pc' := 485) d_L_law_484 rfl ic_2 (sm_iadd (pc' := 486) d_L_law_485 rfl ?_)))
      refine sm_xld (pc' := 487) d_L_law_486 rfl (fun v42 => ?_)
      refine sm_aload_n (i := 0) (j := 1) (pc' := 488) d_L_law_487 rfl rfl rfl (sm_iload_n (i := 3) (j := 0) (pc' := 489) d_L_law_488 rfl rfl rfl (sm_iconst (pc' := 490) d_L_law_489 rfl ic_3 (sm_iadd (pc' := 491) d_L_law_490 rfl ?_)))
      refine sm_xld (pc' := 492) d_L_law_491 rfl (fun v43 => ?_)
      refine sm_aload_n (i := 0) (j := 1) (pc' := 493) d_L_law_492 rfl rfl rfl (sm_iload_n (i := 3) (j := 0) (pc' := 494) d_L_law_493 rfl rfl rfl (sm_iconst (pc' := 495) d_L_law_494 rfl ic_4 (sm_iadd (pc' := 496) d_L_law_495 rfl ?_)))
      refine sm_xld (pc' := 497) d_L_law_496 rfl (fun v44 => ?_)
      refine sm_aload_n (i := 0) (j := 1) (pc' := 498) d_L_law_497 rfl rfl rfl (sm_iload_n (i := 3) (j := 0) (pc' := 499) d_L_law_498 rfl rfl rfl (sm_iconst (pc' := 500) d_L_law_499 rfl ic_5 (sm_iadd (pc' := 501) d_L_law_500 rfl ?_)))
      refine sm_xld (pc' := 502) d_L_law_501 rfl (fun v45 => ?_)
      refine sm_callVi (ci := 11) (x := (some a2)) (av := [.inl v41, .inl v42, .inl v43, .inl v44, .inl v45]) (st := [.inl v40]) (mc := 0) (ms := 0) (pc' := 505) d_L_law_502 rfl (sd_M_pour (some a2) v41 v42 v43 v44 v45) m_lv rfl cv_M_pour w_ml_L_48 rfl rfl (by decide) (Nat.le_of_ble_eq_true rfl) rfl rfl (fun v46 => ?_)
      refine sm_icmp_eq (tgt := 1841) (pc' := 508) d_L_law_505 rfl rfl ?_ ?_
      · refine sm_iinc (j := 0) (L' := [(3, .inl (t3 + 6)), (0, .inr (.inr (some (0, b, 2)))), (1, .inr (.inr (some a1))), (2, .inr (.inr (some a2)))]) (pc' := 1844) d_L_law_1841 rfl (v := (t3 + 6)) rfl (ix_6 _) (Nat.le_of_ble_eq_true rfl) rfl (sm_goto (tgt := 18) d_L_law_1844 rfl (sm_sub [0, 1, 2, 3] rfl ?_))
        exact sm_rt rfl
      · refine sm_iconst (pc' := 509) d_L_law_508 rfl ic_0 ?_
        exact sm_zreturn d_L_law_509 rfl (by decide) rfl
    refine sm_ite (fun hs33_7 => ?_) (fun hs33_7 => ?_)
    · refine sm_tabIn (off := 477) (tgt := 510) d_L_law_33 (by rw [hs33_7]; decide) (by rw [hs33_7]; decide) (by rw [hs33_7]; rfl) rfl ?_
      refine sm_wid (mc' := 0) (ms' := 0) (by decide) (by decide) ?_
      refine sm_aload_n (i := 1) (j := 2) (pc' := 511) d_L_law_510 rfl rfl rfl (sm_aload_n (i := 0) (j := 1) (pc' := 512) d_L_law_511 rfl rfl rfl (sm_iload_n (i := 3) (j := 0) (pc' := 513) d_L_law_512 rfl rfl rfl (sm_iconst (pc' := 514) d_L_law_513 rfl ic_1 (sm_iadd (pc' := 515) d_L_law_514 rfl ?_))))
      refine sm_xld (pc' := 516) d_L_law_515 rfl (fun v47 => ?_)
      refine sm_aload_n (i := 0) (j := 1) (pc' := 517) d_L_law_516 rfl rfl rfl (sm_iload_n (i := 3) (j := 0) (pc' := 518) d_L_law_517 rfl rfl rfl (sm_iconst (pc' := 519) d_L_law_518 rfl ic_2 (sm_iadd (pc' := 520) d_L_law_519 rfl ?_)))
      refine sm_xld (pc' := 521) d_L_law_520 rfl (fun v48 => ?_)
      refine sm_aload_n (i := 0) (j := 1) (pc' := 522) d_L_law_521 rfl rfl rfl (sm_iload_n (i := 3) (j := 0) (pc' := 523) d_L_law_522 rfl rfl rfl (sm_iconst (pc' := 524) d_L_law_523 rfl ic_3 (sm_iadd (pc' := 525) d_L_law_524 rfl ?_)))
      refine sm_xld (pc' := 526) d_L_law_525 rfl (fun v49 => ?_)
      refine sm_aload_n (i := 0) (j := 1) (pc' := 527) d_L_law_526 rfl rfl rfl (sm_iload_n (i := 3) (j := 0) (pc' := 528) d_L_law_527 rfl rfl rfl (sm_iconst (pc' := 529) d_L_law_528 rfl ic_4 (sm_iadd (pc' := 530) d_L_law_529 rfl ?_)))
      refine sm_xld (pc' := 531) d_L_law_530 rfl (fun v50 => ?_)
      refine sm_aload_n (i := 0) (j := 1) (pc' := 532) d_L_law_531 rfl rfl rfl (sm_iload_n (i := 3) (j := 0) (pc' := 533) d_L_law_532 rfl rfl rfl (sm_iconst (pc' := 534) d_L_law_533 rfl ic_5 (sm_iadd (pc' := 535) d_L_law_534 rfl ?_)))
      refine sm_xld (pc' := 536) d_L_law_535 rfl (fun v51 => ?_)
      refine sm_callVi (ci := 0) (x := (some a1)) (av := [.inl v47, .inl v48, .inl v49, .inl v50, .inl v51]) (st := []) (mc := 0) (ms := 0) (pc' := 539) d_L_law_536 rfl (sd_C_feed (some a1) v47 v48 v49 v50 v51) m_lv rfl cv_C_feed w_ml_L_49 rfl rfl (by decide) (Nat.le_of_ble_eq_true rfl) rfl rfl (fun v52 => ?_)
      refine sm_aload_n (i := 2) (j := 3) (pc' := 540) d_L_law_539 rfl rfl rfl (sm_aload_n (i := 0) (j := 1) (pc' := 541) d_L_law_540 rfl rfl rfl (sm_iload_n (i := 3) (j := 0) (pc' := 542) d_L_law_541 rfl rfl rfl (sm_iconst (pc' := 543) d_L_law_542 rfl ic_1 (sm_iadd (pc' := 544) d_L_law_543 rfl ?_))))
      refine sm_xld (pc' := 545) d_L_law_544 rfl (fun v53 => ?_)
      refine sm_aload_n (i := 0) (j := 1) (pc' := 546) d_L_law_545 rfl rfl rfl (sm_iload_n (i := 3) (j := 0) (pc' := 547) d_L_law_546 rfl rfl rfl (sm_iconst (pc' := 548) d_L_law_547 rfl ic_2 (sm_iadd (pc' := 549) d_L_law_548 rfl ?_)))
      refine sm_xld (pc' := 550) d_L_law_549 rfl (fun v54 => ?_)
      refine sm_aload_n (i := 0) (j := 1) (pc' := 551) d_L_law_550 rfl rfl rfl (sm_iload_n (i := 3) (j := 0) (pc' := 552) d_L_law_551 rfl rfl rfl (sm_iconst (pc' := 553) d_L_law_552 rfl ic_3 (sm_iadd (pc' := 554) d_L_law_553 rfl ?_)))
      refine sm_xld (pc' := 555) d_L_law_554 rfl (fun v55 => ?_)
      refine sm_aload_n (i := 0) (j := 1) (pc' := 556) d_L_law_555 rfl rfl rfl (sm_iload_n (i := 3) (j := 0) (pc' := 557) d_L_law_556 rfl rfl rfl (sm_iconst (pc' := 558) d_L_law_557 rfl ic_4 (sm_iadd (pc' := 559) d_L_law_558 rfl ?_)))
      refine sm_xld (pc' := 560) d_L_law_559 rfl (fun v56 => ?_)
      refine sm_aload_n (i := 0) (j := 1) (pc' := 561) d_L_law_560 rfl rfl rfl (sm_iload_n (i := 3) (j := 0) (pc' := 562) d_L_law_561 rfl rfl rfl (sm_iconst (pc' := 563) d_L_law_562 rfl ic_5 (sm_iadd (pc' := 564) d_L_law_563 rfl ?_)))
      refine sm_xld (pc' := 565) d_L_law_564 rfl (fun v57 => ?_)
      refine sm_callVi (ci := 11) (x := (some a2)) (av := [.inl v53, .inl v54, .inl v55, .inl v56, .inl v57]) (st := [.inl v52]) (mc := 0) (ms := 0) (pc' := 568) d_L_law_565 rfl (sd_M_feed (some a2) v53 v54 v55 v56 v57) m_lv rfl cv_M_feed w_ml_L_53 rfl rfl (by decide) (Nat.le_of_ble_eq_true rfl) rfl rfl (fun v58 => ?_)
      refine sm_icmp_eq (tgt := 1841) (pc' := 571) d_L_law_568 rfl rfl ?_ ?_
      · refine sm_iinc (j := 0) (L' := [(3, .inl (t3 + 6)), (0, .inr (.inr (some (0, b, 2)))), (1, .inr (.inr (some a1))), (2, .inr (.inr (some a2)))]) (pc' := 1844) d_L_law_1841 rfl (v := (t3 + 6)) rfl (ix_6 _) (Nat.le_of_ble_eq_true rfl) rfl (sm_goto (tgt := 18) d_L_law_1844 rfl (sm_sub [0, 1, 2, 3] rfl ?_))
        exact sm_rt rfl
      · refine sm_iconst (pc' := 572) d_L_law_571 rfl ic_0 ?_
        exact sm_zreturn d_L_law_572 rfl (by decide) rfl
    refine sm_ite (fun hs33_8 => ?_) (fun hs33_8 => ?_)
    · refine sm_tabIn (off := 540) (tgt := 573) d_L_law_33 (by rw [hs33_8]; decide) (by rw [hs33_8]; decide) (by rw [hs33_8]; rfl) rfl ?_
      refine sm_wid (mc' := 0) (ms' := 0) (by decide) (by decide) ?_
      refine sm_aload_n (i := 1) (j := 2) (pc' := 574) d_L_law_573 rfl rfl rfl (sm_aload_n (i := 0) (j := 1) (pc' := 575) d_L_law_574 rfl rfl rfl (sm_iload_n (i := 3) (j := 0) (pc' := 576) d_L_law_575 rfl rfl rfl (sm_iconst (pc' := 577) d_L_law_576 rfl ic_1 (sm_iadd (pc' := 578) d_L_law_577 rfl ?_))))
      refine sm_xld (pc' := 579) d_L_law_578 rfl (fun v59 => ?_)
      refine sm_callVi (ci := 0) (x := (some a1)) (av := [.inl v59]) (st := []) (mc := 0) (ms := 0) (pc' := 582) d_L_law_579 rfl (sd_C_family (some a1) v59) m_lv rfl cv_C_family w_ml_L_54 rfl rfl (by decide) (Nat.le_of_ble_eq_true rfl) rfl rfl (fun v60 => ?_)
      refine sm_aload_n (i := 2) (j := 3) (pc' := 583) d_L_law_582 rfl rfl rfl (sm_aload_n (i := 0) (j := 1) (pc' := 584) d_L_law_583 rfl rfl rfl (sm_iload_n (i := 3) (j := 0) (pc' := 585) d_L_law_584 rfl rfl rfl (sm_iconst (pc' := 586) d_L_law_585 rfl ic_1 (sm_iadd (pc' := 587) d_L_law_586 rfl ?_))))
      refine sm_xld (pc' := 588) d_L_law_587 rfl (fun v61 => ?_)
      refine sm_callVi (ci := 11) (x := (some a2)) (av := [.inl v61]) (st := [.inl v60]) (mc := 0) (ms := 0) (pc' := 591) d_L_law_588 rfl (sd_M_family (some a2) v61) m_lv rfl cv_M_family w_ml_L_58 rfl rfl (by decide) (Nat.le_of_ble_eq_true rfl) rfl rfl (fun v62 => ?_)
      refine sm_icmp_eq (tgt := 1841) (pc' := 594) d_L_law_591 rfl rfl ?_ ?_
      · refine sm_iinc (j := 0) (L' := [(3, .inl (t3 + 6)), (0, .inr (.inr (some (0, b, 2)))), (1, .inr (.inr (some a1))), (2, .inr (.inr (some a2)))]) (pc' := 1844) d_L_law_1841 rfl (v := (t3 + 6)) rfl (ix_6 _) (Nat.le_of_ble_eq_true rfl) rfl (sm_goto (tgt := 18) d_L_law_1844 rfl (sm_sub [0, 1, 2, 3] rfl ?_))
        exact sm_rt rfl
      · refine sm_iconst (pc' := 595) d_L_law_594 rfl ic_0 ?_
        exact sm_zreturn d_L_law_595 rfl (by decide) rfl
    refine sm_ite (fun hs33_9 => ?_) (fun hs33_9 => ?_)
    · refine sm_tabIn (off := 563) (tgt := 596) d_L_law_33 (by rw [hs33_9]; decide) (by rw [hs33_9]; decide) (by rw [hs33_9]; rfl) rfl ?_
      refine sm_wid (mc' := 0) (ms' := 0) (by decide) (by decide) ?_
      refine sm_aload_n (i := 1) (j := 2) (pc' := 597) d_L_law_596 rfl rfl rfl (sm_aload_n (i := 0) (j := 1) (pc' := 598) d_L_law_597 rfl rfl rfl (sm_iload_n (i := 3) (j := 0) (pc' := 599) d_L_law_598 rfl rfl rfl (sm_iconst (pc' := 600) d_L_law_599 rfl ic_1 (sm_iadd (pc' := 601) d_L_law_600 rfl ?_))))
      refine sm_xld (pc' := 602) d_L_law_601 rfl (fun v63 => ?_)
      refine sm_callVi (ci := 0) (x := (some a1)) (av := [.inl v63]) (st := []) (mc := 0) (ms := 0) (pc' := 605) d_L_law_602 rfl (sd_C_years (some a1) v63) m_lv rfl cv_C_years w_ml_L_59 rfl rfl (by decide) (Nat.le_of_ble_eq_true rfl) rfl rfl (fun v64 => ?_)
      refine sm_aload_n (i := 2) (j := 3) (pc' := 606) d_L_law_605 rfl rfl rfl (sm_aload_n (i := 0) (j := 1) (pc' := 607) d_L_law_606 rfl rfl rfl (sm_iload_n (i := 3) (j := 0) (pc' := 608) d_L_law_607 rfl rfl rfl (sm_iconst (pc' := 609) d_L_law_608 rfl ic_1 (sm_iadd (pc' := 610) d_L_law_609 rfl ?_))))
      refine sm_xld (pc' := 611) d_L_law_610 rfl (fun v65 => ?_)
      refine sm_callVi (ci := 11) (x := (some a2)) (av := [.inl v65]) (st := [.inl v64]) (mc := 0) (ms := 0) (pc' := 614) d_L_law_611 rfl (sd_M_years (some a2) v65) m_lv rfl cv_M_years w_ml_L_62 rfl rfl (by decide) (Nat.le_of_ble_eq_true rfl) rfl rfl (fun v66 => ?_)
      refine sm_icmp_eq (tgt := 1841) (pc' := 617) d_L_law_614 rfl rfl ?_ ?_
      · refine sm_iinc (j := 0) (L' := [(3, .inl (t3 + 6)), (0, .inr (.inr (some (0, b, 2)))), (1, .inr (.inr (some a1))), (2, .inr (.inr (some a2)))]) (pc' := 1844) d_L_law_1841 rfl (v := (t3 + 6)) rfl (ix_6 _) (Nat.le_of_ble_eq_true rfl) rfl (sm_goto (tgt := 18) d_L_law_1844 rfl (sm_sub [0, 1, 2, 3] rfl ?_))
        exact sm_rt rfl
      · refine sm_iconst (pc' := 618) d_L_law_617 rfl ic_0 ?_
        exact sm_zreturn d_L_law_618 rfl (by decide) rfl
    refine sm_ite (fun hs33_10 => ?_) (fun hs33_10 => ?_)
    · refine sm_tabIn (off := 586) (tgt := 619) d_L_law_33 (by rw [hs33_10]; decide) (by rw [hs33_10]; decide) (by rw [hs33_10]; rfl) rfl ?_
      refine sm_wid (mc' := 0) (ms' := 0) (by decide) (by decide) ?_
      refine sm_aload_n (i := 1) (j := 2) (pc' := 620) d_L_law_619 rfl rfl rfl (sm_aload_n (i := 0) (j := 1) (pc' := 621) d_L_law_620 rfl rfl rfl (sm_iload_n (i := 3) (j := 0) (pc' := 622) d_L_law_621 rfl rfl rfl (sm_iconst (pc' := 623) d_L_law_622 rfl ic_1 (sm_iadd (pc' := 624) d_L_law_623 rfl ?_))))
      refine sm_xld (pc' := 625) d_L_law_624 rfl (fun v67 => ?_)
      refine sm_callVi (ci := 0) (x := (some a1)) (av := [.inl v67]) (st := []) (mc := 0) (ms := 0) (pc' := 628) d_L_law_625 rfl (sd_C_fault (some a1) v67) m_lv rfl cv_C_fault w_ml_L_63 rfl rfl (by decide) (Nat.le_of_ble_eq_true rfl) rfl rfl (fun v68 => ?_)
      refine sm_aload_n (i := 2) (j := 3) (pc' := 629) d_L_law_628 rfl rfl rfl (sm_aload_n (i := 0) (j := 1) (pc' := 630) d_L_law_629 rfl rfl rfl (sm_iload_n (i := 3) (j := 0) (pc' := 631) d_L_law_630 rfl rfl rfl (sm_iconst (pc' := 632) d_L_law_631 rfl ic_1 (sm_iadd (pc' := 633) d_L_law_632 rfl ?_))))
      refine sm_xld (pc' := 634) d_L_law_633 rfl (fun v69 => ?_)
      refine sm_callVi (ci := 11) (x := (some a2)) (av := [.inl v69]) (st := [.inl v68]) (mc := 0) (ms := 0) (pc' := 637) d_L_law_634 rfl (sd_M_fault (some a2) v69) m_lv rfl cv_M_fault w_ml_L_66 rfl rfl (by decide) (Nat.le_of_ble_eq_true rfl) rfl rfl (fun v70 => ?_)
      refine sm_icmp_eq (tgt := 1841) (pc' := 640) d_L_law_637 rfl rfl ?_ ?_
      · refine sm_iinc (j := 0) (L' := [(3, .inl (t3 + 6)), (0, .inr (.inr (some (0, b, 2)))), (1, .inr (.inr (some a1))), (2, .inr (.inr (some a2)))]) (pc' := 1844) d_L_law_1841 rfl (v := (t3 + 6)) rfl (ix_6 _) (Nat.le_of_ble_eq_true rfl) rfl (sm_goto (tgt := 18) d_L_law_1844 rfl (sm_sub [0, 1, 2, 3] rfl ?_))
        exact sm_rt rfl
      · refine sm_iconst (pc' := 641) d_L_law_640 rfl ic_0 ?_
        exact sm_zreturn d_L_law_641 rfl (by decide) rfl
    refine sm_ite (fun hs33_11 => ?_) (fun hs33_11 => ?_)
    · refine sm_tabIn (off := 609) (tgt := 642) d_L_law_33 (by rw [hs33_11]; decide) (by rw [hs33_11]; decide) (by rw [hs33_11]; rfl) rfl ?_
      refine sm_wid (mc' := 0) (ms' := 0) (by decide) (by decide) ?_
      refine sm_aload_n (i := 1) (j := 2) (pc' := 643) d_L_law_642 rfl rfl rfl (sm_aload_n (i := 0) (j := 1) (pc' := 644) d_L_law_643 rfl rfl rfl (sm_iload_n (i := 3) (j := 0) (pc' := 645) d_L_law_644 rfl rfl rfl (sm_iconst (pc' := 646) d_L_law_645 rfl ic_1 (sm_iadd (pc' := 647) d_L_law_646 rfl ?_))))
      refine sm_xld (pc' := 648) d_L_law_647 rfl (fun v71 => ?_)
      refine sm_callVi (ci := 0) (x := (some a1)) (av := [.inl v71]) (st := []) (mc := 0) (ms := 0) (pc' := 651) d_L_law_648 rfl (sd_C_many (some a1) v71) m_lv rfl cv_C_many w_ml_L_67 rfl rfl (by decide) (Nat.le_of_ble_eq_true rfl) rfl rfl (fun v72 => ?_)
      refine sm_aload_n (i := 2) (j := 3) (pc' := 652) d_L_law_651 rfl rfl rfl (sm_aload_n (i := 0) (j := 1) (pc' := 653) d_L_law_652 rfl rfl rfl (sm_iload_n (i := 3) (j := 0) (pc' := 654) d_L_law_653 rfl rfl rfl (sm_iconst (pc' := 655) d_L_law_654 rfl ic_1 (sm_iadd (pc' := 656) d_L_law_655 rfl ?_))))
      refine sm_xld (pc' := 657) d_L_law_656 rfl (fun v73 => ?_)
      refine sm_callVi (ci := 11) (x := (some a2)) (av := [.inl v73]) (st := [.inl v72]) (mc := 0) (ms := 0) (pc' := 660) d_L_law_657 rfl (sd_M_many (some a2) v73) m_lv rfl cv_M_many w_ml_L_70 rfl rfl (by decide) (Nat.le_of_ble_eq_true rfl) rfl rfl (fun v74 => ?_)
      refine sm_icmp_eq (tgt := 1841) (pc' := 663) d_L_law_660 rfl rfl ?_ ?_
      · refine sm_iinc (j := 0) (L' := [(3, .inl (t3 + 6)), (0, .inr (.inr (some (0, b, 2)))), (1, .inr (.inr (some a1))), (2, .inr (.inr (some a2)))]) (pc' := 1844) d_L_law_1841 rfl (v := (t3 + 6)) rfl (ix_6 _) (Nat.le_of_ble_eq_true rfl) rfl (sm_goto (tgt := 18) d_L_law_1844 rfl (sm_sub [0, 1, 2, 3] rfl ?_))
        exact sm_rt rfl
      · refine sm_iconst (pc' := 664) d_L_law_663 rfl ic_0 ?_
        exact sm_zreturn d_L_law_664 rfl (by decide) rfl
    refine sm_ite (fun hs33_12 => ?_) (fun hs33_12 => ?_)
    · refine sm_tabIn (off := 632) (tgt := 665) d_L_law_33 (by rw [hs33_12]; decide) (by rw [hs33_12]; decide) (by rw [hs33_12]; rfl) rfl ?_
      refine sm_wid (mc' := 0) (ms' := 0) (by decide) (by decide) ?_
      refine sm_aload_n (i := 1) (j := 2) (pc' := 666) d_L_law_665 rfl rfl rfl (sm_aload_n (i := 0) (j := 1) (pc' := 667) d_L_law_666 rfl rfl rfl (sm_iload_n (i := 3) (j := 0) (pc' := 668) d_L_law_667 rfl rfl rfl (sm_iconst (pc' := 669) d_L_law_668 rfl ic_1 (sm_iadd (pc' := 670) d_L_law_669 rfl ?_))))
      refine sm_xld (pc' := 671) d_L_law_670 rfl (fun v75 => ?_)
      refine sm_aload_n (i := 0) (j := 1) (pc' := 672) d_L_law_671 rfl rfl rfl (sm_iload_n (i := 3) (j := 0) (pc' := 673) d_L_law_672 rfl rfl rfl (sm_iconst (pc' := 674) d_L_law_673 rfl ic_2 (sm_iadd (pc' := 675) d_L_law_674 rfl ?_)))
      refine sm_xld (pc' := 676) d_L_law_675 rfl (fun v76 => ?_)
      refine sm_callVi (ci := 0) (x := (some a1)) (av := [.inl v75, .inl v76]) (st := []) (mc := 0) (ms := 0) (pc' := 679) d_L_law_676 rfl (sd_C_person (some a1) v75 v76) m_lv rfl cv_C_person w_ml_L_71 rfl rfl (by decide) (Nat.le_of_ble_eq_true rfl) rfl rfl (fun v77 => ?_)
      refine sm_aload_n (i := 2) (j := 3) (pc' := 680) d_L_law_679 rfl rfl rfl (sm_aload_n (i := 0) (j := 1) (pc' := 681) d_L_law_680 rfl rfl rfl (sm_iload_n (i := 3) (j := 0) (pc' := 682) d_L_law_681 rfl rfl rfl (sm_iconst (pc' := 683) d_L_law_682 rfl ic_1 (sm_iadd (pc' := 684) d_L_law_683 rfl ?_))))
      refine sm_xld (pc' := 685) d_L_law_684 rfl (fun v78 => ?_)
      refine sm_aload_n (i := 0) (j := 1) (pc' := 686) d_L_law_685 rfl rfl rfl (sm_iload_n (i := 3) (j := 0) (pc' := 687) d_L_law_686 rfl rfl rfl (sm_iconst (pc' := 688) d_L_law_687 rfl ic_2 (sm_iadd (pc' := 689) d_L_law_688 rfl ?_)))
      refine sm_xld (pc' := 690) d_L_law_689 rfl (fun v79 => ?_)
      refine sm_callVi (ci := 11) (x := (some a2)) (av := [.inl v78, .inl v79]) (st := [.inl v77]) (mc := 0) (ms := 0) (pc' := 693) d_L_law_690 rfl (sd_M_person (some a2) v78 v79) m_lv rfl cv_M_person w_ml_L_75 rfl rfl (by decide) (Nat.le_of_ble_eq_true rfl) rfl rfl (fun v80 => ?_)
      refine sm_icmp_eq (tgt := 1841) (pc' := 696) d_L_law_693 rfl rfl ?_ ?_
      · refine sm_iinc (j := 0) (L' := [(3, .inl (t3 + 6)), (0, .inr (.inr (some (0, b, 2)))), (1, .inr (.inr (some a1))), (2, .inr (.inr (some a2)))]) (pc' := 1844) d_L_law_1841 rfl (v := (t3 + 6)) rfl (ix_6 _) (Nat.le_of_ble_eq_true rfl) rfl (sm_goto (tgt := 18) d_L_law_1844 rfl (sm_sub [0, 1, 2, 3] rfl ?_))
        exact sm_rt rfl
      · refine sm_iconst (pc' := 697) d_L_law_696 rfl ic_0 ?_
        exact sm_zreturn d_L_law_697 rfl (by decide) rfl
    refine sm_ite (fun hs33_13 => ?_) (fun hs33_13 => ?_)
    · refine sm_tabIn (off := 665) (tgt := 698) d_L_law_33 (by rw [hs33_13]; decide) (by rw [hs33_13]; decide) (by rw [hs33_13]; rfl) rfl ?_
      refine sm_wid (mc' := 0) (ms' := 0) (by decide) (by decide) ?_
      refine sm_aload_n (i := 1) (j := 2) (pc' := 699) d_L_law_698 rfl rfl rfl (sm_aload_n (i := 0) (j := 1) (pc' := 700) d_L_law_699 rfl rfl rfl (sm_iload_n (i := 3) (j := 0) (pc' := 701) d_L_law_700 rfl rfl rfl (sm_iconst (pc' := 702) d_L_law_701 rfl ic_1 (sm_iadd (pc' := 703) d_L_law_702 rfl ?_))))
      refine sm_xld (pc' := 704) d_L_law_703 rfl (fun v81 => ?_)
      refine sm_aload_n (i := 0) (j := 1) (pc' := 705) d_L_law_704 rfl rfl rfl (sm_iload_n (i := 3) (j := 0) (pc' := 706) d_L_law_705 rfl rfl rfl (sm_iconst (pc' := 707) d_L_law_706 rfl ic_2 (sm_iadd (pc' := 708) d_L_law_707 rfl ?_)))
      refine sm_xld (pc' := 709) d_L_law_708 rfl (fun v82 => ?_)
      refine sm_callVi (ci := 0) (x := (some a1)) (av := [.inl v81, .inl v82]) (st := []) (mc := 0) (ms := 0) (pc' := 712) d_L_law_709 rfl (sd_C_thing (some a1) v81 v82) m_lv rfl cv_C_thing w_ml_L_76 rfl rfl (by decide) (Nat.le_of_ble_eq_true rfl) rfl rfl (fun v83 => ?_)
      refine sm_aload_n (i := 2) (j := 3) (pc' := 713) d_L_law_712 rfl rfl rfl (sm_aload_n (i := 0) (j := 1) (pc' := 714) d_L_law_713 rfl rfl rfl (sm_iload_n (i := 3) (j := 0) (pc' := 715) d_L_law_714 rfl rfl rfl (sm_iconst (pc' := 716) d_L_law_715 rfl ic_1 (sm_iadd (pc' := 717) d_L_law_716 rfl ?_))))
      refine sm_xld (pc' := 718) d_L_law_717 rfl (fun v84 => ?_)
      refine sm_aload_n (i := 0) (j := 1) (pc' := 719) d_L_law_718 rfl rfl rfl (sm_iload_n (i := 3) (j := 0) (pc' := 720) d_L_law_719 rfl rfl rfl (sm_iconst (pc' := 721) d_L_law_720 rfl ic_2 (sm_iadd (pc' := 722) d_L_law_721 rfl ?_)))
      refine sm_xld (pc' := 723) d_L_law_722 rfl (fun v85 => ?_)
      refine sm_callVi (ci := 11) (x := (some a2)) (av := [.inl v84, .inl v85]) (st := [.inl v83]) (mc := 0) (ms := 0) (pc' := 726) d_L_law_723 rfl (sd_M_thing (some a2) v84 v85) m_lv rfl cv_M_thing w_ml_L_79 rfl rfl (by decide) (Nat.le_of_ble_eq_true rfl) rfl rfl (fun v86 => ?_)
      refine sm_icmp_eq (tgt := 1841) (pc' := 729) d_L_law_726 rfl rfl ?_ ?_
      · refine sm_iinc (j := 0) (L' := [(3, .inl (t3 + 6)), (0, .inr (.inr (some (0, b, 2)))), (1, .inr (.inr (some a1))), (2, .inr (.inr (some a2)))]) (pc' := 1844) d_L_law_1841 rfl (v := (t3 + 6)) rfl (ix_6 _) (Nat.le_of_ble_eq_true rfl) rfl (sm_goto (tgt := 18) d_L_law_1844 rfl (sm_sub [0, 1, 2, 3] rfl ?_))
        exact sm_rt rfl
      · refine sm_iconst (pc' := 730) d_L_law_729 rfl ic_0 ?_
        exact sm_zreturn d_L_law_730 rfl (by decide) rfl
    refine sm_ite (fun hs33_14 => ?_) (fun hs33_14 => ?_)
    · refine sm_tabIn (off := 698) (tgt := 731) d_L_law_33 (by rw [hs33_14]; decide) (by rw [hs33_14]; decide) (by rw [hs33_14]; rfl) rfl ?_
      refine sm_wid (mc' := 0) (ms' := 0) (by decide) (by decide) ?_
      refine sm_aload_n (i := 1) (j := 2) (pc' := 732) d_L_law_731 rfl rfl rfl (sm_aload_n (i := 0) (j := 1) (pc' := 733) d_L_law_732 rfl rfl rfl (sm_iload_n (i := 3) (j := 0) (pc' := 734) d_L_law_733 rfl rfl rfl (sm_iconst (pc' := 735) d_L_law_734 rfl ic_1 (sm_iadd (pc' := 736) d_L_law_735 rfl ?_))))
      refine sm_xld (pc' := 737) d_L_law_736 rfl (fun v87 => ?_)
      refine sm_aload_n (i := 0) (j := 1) (pc' := 738) d_L_law_737 rfl rfl rfl (sm_iload_n (i := 3) (j := 0) (pc' := 739) d_L_law_738 rfl rfl rfl (sm_iconst (pc' := 740) d_L_law_739 rfl ic_2 (sm_iadd (pc' := 741) d_L_law_740 rfl ?_)))
      refine sm_xld (pc' := 742) d_L_law_741 rfl (fun v88 => ?_)
      refine sm_callVi (ci := 0) (x := (some a1)) (av := [.inl v87, .inl v88]) (st := []) (mc := 0) (ms := 0) (pc' := 745) d_L_law_742 rfl (sd_C_love (some a1) v87 v88) m_lv rfl cv_C_love w_ml_L_80 rfl rfl (by decide) (Nat.le_of_ble_eq_true rfl) rfl rfl (fun v89 => ?_)
      refine sm_aload_n (i := 2) (j := 3) (pc' := 746) d_L_law_745 rfl rfl rfl (sm_aload_n (i := 0) (j := 1) (pc' := 747) d_L_law_746 rfl rfl rfl (sm_iload_n (i := 3) (j := 0) (pc' := 748) d_L_law_747 rfl rfl rfl (sm_iconst (pc' := 749) d_L_law_748 rfl ic_1 (sm_iadd (pc' := 750) d_L_law_749 rfl ?_))))
      refine sm_xld (pc' := 751) d_L_law_750 rfl (fun v90 => ?_)
      refine sm_aload_n (i := 0) (j := 1) (pc' := 752) d_L_law_751 rfl rfl rfl (sm_iload_n (i := 3) (j := 0) (pc' := 753) d_L_law_752 rfl rfl rfl (sm_iconst (pc' := 754) d_L_law_753 rfl ic_2 (sm_iadd (pc' := 755) d_L_law_754 rfl ?_)))
      refine sm_xld (pc' := 756) d_L_law_755 rfl (fun v91 => ?_)
      refine sm_callVi (ci := 11) (x := (some a2)) (av := [.inl v90, .inl v91]) (st := [.inl v89]) (mc := 0) (ms := 0) (pc' := 759) d_L_law_756 rfl (sd_M_love (some a2) v90 v91) m_lv rfl cv_M_love w_ml_L_83 rfl rfl (by decide) (Nat.le_of_ble_eq_true rfl) rfl rfl (fun v92 => ?_)
      refine sm_icmp_eq (tgt := 1841) (pc' := 762) d_L_law_759 rfl rfl ?_ ?_
      · refine sm_iinc (j := 0) (L' := [(3, .inl (t3 + 6)), (0, .inr (.inr (some (0, b, 2)))), (1, .inr (.inr (some a1))), (2, .inr (.inr (some a2)))]) (pc' := 1844) d_L_law_1841 rfl (v := (t3 + 6)) rfl (ix_6 _) (Nat.le_of_ble_eq_true rfl) rfl (sm_goto (tgt := 18) d_L_law_1844 rfl (sm_sub [0, 1, 2, 3] rfl ?_))
        exact sm_rt rfl
      · refine sm_iconst (pc' := 763) d_L_law_762 rfl ic_0 ?_
        exact sm_zreturn d_L_law_763 rfl (by decide) rfl
    refine sm_ite (fun hs33_15 => ?_) (fun hs33_15 => ?_)
    · refine sm_tabIn (off := 731) (tgt := 764) d_L_law_33 (by rw [hs33_15]; decide) (by rw [hs33_15]; decide) (by rw [hs33_15]; rfl) rfl ?_
      refine sm_wid (mc' := 0) (ms' := 0) (by decide) (by decide) ?_
      refine sm_aload_n (i := 1) (j := 2) (pc' := 765) d_L_law_764 rfl rfl rfl (sm_aload_n (i := 0) (j := 1) (pc' := 766) d_L_law_765 rfl rfl rfl (sm_iload_n (i := 3) (j := 0) (pc' := 767) d_L_law_766 rfl rfl rfl (sm_iconst (pc' := 768) d_L_law_767 rfl ic_1 (sm_iadd (pc' := 769) d_L_law_768 rfl ?_))))
      refine sm_xld (pc' := 770) d_L_law_769 rfl (fun v93 => ?_)
      refine sm_callVi (ci := 0) (x := (some a1)) (av := [.inl v93]) (st := []) (mc := 0) (ms := 0) (pc' := 773) d_L_law_770 rfl (sd_C_copyRust (some a1) v93) m_lv rfl cv_C_copyRust w_ml_L_84 rfl rfl (by decide) (Nat.le_of_ble_eq_true rfl) rfl rfl (fun v94 => ?_)
      refine sm_aload_n (i := 2) (j := 3) (pc' := 774) d_L_law_773 rfl rfl rfl (sm_aload_n (i := 0) (j := 1) (pc' := 775) d_L_law_774 rfl rfl rfl (sm_iload_n (i := 3) (j := 0) (pc' := 776) d_L_law_775 rfl rfl rfl (sm_iconst (pc' := 777) d_L_law_776 rfl ic_1 (sm_iadd (pc' := 778) d_L_law_777 rfl ?_))))
      refine sm_xld (pc' := 779) d_L_law_778 rfl (fun v95 => ?_)
      refine sm_callVi (ci := 11) (x := (some a2)) (av := [.inl v95]) (st := [.inl v94]) (mc := 0) (ms := 0) (pc' := 782) d_L_law_779 rfl (sd_M_copyRust (some a2) v95) m_lv rfl cv_M_copyRust w_ml_L_87 rfl rfl (by decide) (Nat.le_of_ble_eq_true rfl) rfl rfl (fun v96 => ?_)
      refine sm_icmp_eq (tgt := 1841) (pc' := 785) d_L_law_782 rfl rfl ?_ ?_
      · refine sm_iinc (j := 0) (L' := [(3, .inl (t3 + 6)), (0, .inr (.inr (some (0, b, 2)))), (1, .inr (.inr (some a1))), (2, .inr (.inr (some a2)))]) (pc' := 1844) d_L_law_1841 rfl (v := (t3 + 6)) rfl (ix_6 _) (Nat.le_of_ble_eq_true rfl) rfl (sm_goto (tgt := 18) d_L_law_1844 rfl (sm_sub [0, 1, 2, 3] rfl ?_))
        exact sm_rt rfl
      · refine sm_iconst (pc' := 786) d_L_law_785 rfl ic_0 ?_
        exact sm_zreturn d_L_law_786 rfl (by decide) rfl
    refine sm_ite (fun hs33_16 => ?_) (fun hs33_16 => ?_)
    · refine sm_tabIn (off := 754) (tgt := 787) d_L_law_33 (by rw [hs33_16]; decide) (by rw [hs33_16]; decide) (by rw [hs33_16]; rfl) rfl ?_
      refine sm_wid (mc' := 0) (ms' := 0) (by decide) (by decide) ?_
      refine sm_aload_n (i := 1) (j := 2) (pc' := 788) d_L_law_787 rfl rfl rfl (sm_aload_n (i := 0) (j := 1) (pc' := 789) d_L_law_788 rfl rfl rfl (sm_iload_n (i := 3) (j := 0) (pc' := 790) d_L_law_789 rfl rfl rfl (sm_iconst (pc' := 791) d_L_law_790 rfl ic_1 (sm_iadd (pc' := 792) d_L_law_791 rfl ?_))))
      refine sm_xld (pc' := 793) d_L_law_792 rfl (fun v97 => ?_)
      refine sm_callVi (ci := 0) (x := (some a1)) (av := [.inl v97]) (st := []) (mc := 0) (ms := 0) (pc' := 796) d_L_law_793 rfl (sd_C_year (some a1) v97) m_lv rfl cv_C_year w_ml_L_88 rfl rfl (by decide) (Nat.le_of_ble_eq_true rfl) rfl rfl (fun v98 => ?_)
      refine sm_aload_n (i := 2) (j := 3) (pc' := 797) d_L_law_796 rfl rfl rfl (sm_aload_n (i := 0) (j := 1) (pc' := 798) d_L_law_797 rfl rfl rfl (sm_iload_n (i := 3) (j := 0) (pc' := 799) d_L_law_798 rfl rfl rfl (sm_iconst (pc' := 800) d_L_law_799 rfl ic_1 (sm_iadd (pc' := 801) d_L_law_800 rfl ?_))))
      refine sm_xld (pc' := 802) d_L_law_801 rfl (fun v99 => ?_)
      refine sm_callVi (ci := 11) (x := (some a2)) (av := [.inl v99]) (st := [.inl v98]) (mc := 0) (ms := 0) (pc' := 805) d_L_law_802 rfl (sd_M_year (some a2) v99) m_lv rfl cv_M_year w_ml_L_91 rfl rfl (by decide) (Nat.le_of_ble_eq_true rfl) rfl rfl (fun v100 => ?_)
      refine sm_icmp_eq (tgt := 1841) (pc' := 808) d_L_law_805 rfl rfl ?_ ?_
      · refine sm_iinc (j := 0) (L' := [(3, .inl (t3 + 6)), (0, .inr (.inr (some (0, b, 2)))), (1, .inr (.inr (some a1))), (2, .inr (.inr (some a2)))]) (pc' := 1844) d_L_law_1841 rfl (v := (t3 + 6)) rfl (ix_6 _) (Nat.le_of_ble_eq_true rfl) rfl (sm_goto (tgt := 18) d_L_law_1844 rfl (sm_sub [0, 1, 2, 3] rfl ?_))
        exact sm_rt rfl
      · refine sm_iconst (pc' := 809) d_L_law_808 rfl ic_0 ?_
        exact sm_zreturn d_L_law_809 rfl (by decide) rfl
    refine sm_ite (fun hs33_17 => ?_) (fun hs33_17 => ?_)
    · refine sm_tabIn (off := 777) (tgt := 810) d_L_law_33 (by rw [hs33_17]; decide) (by rw [hs33_17]; decide) (by rw [hs33_17]; rfl) rfl ?_
      refine sm_wid (mc' := 0) (ms' := 0) (by decide) (by decide) ?_
      refine sm_aload_n (i := 1) (j := 2) (pc' := 811) d_L_law_810 rfl rfl rfl (sm_aload_n (i := 0) (j := 1) (pc' := 812) d_L_law_811 rfl rfl rfl (sm_iload_n (i := 3) (j := 0) (pc' := 813) d_L_law_812 rfl rfl rfl (sm_iconst (pc' := 814) d_L_law_813 rfl ic_1 (sm_iadd (pc' := 815) d_L_law_814 rfl ?_))))
      refine sm_xld (pc' := 816) d_L_law_815 rfl (fun v101 => ?_)
      refine sm_aload_n (i := 0) (j := 1) (pc' := 817) d_L_law_816 rfl rfl rfl (sm_iload_n (i := 3) (j := 0) (pc' := 818) d_L_law_817 rfl rfl rfl (sm_iconst (pc' := 819) d_L_law_818 rfl ic_2 (sm_iadd (pc' := 820) d_L_law_819 rfl ?_)))
      refine sm_xld (pc' := 821) d_L_law_820 rfl (fun v102 => ?_)
      refine sm_aload_n (i := 0) (j := 1) (pc' := 822) d_L_law_821 rfl rfl rfl (sm_iload_n (i := 3) (j := 0) (pc' := 823) d_L_law_822 rfl rfl rfl (sm_iconst (pc' := 824) d_L_law_823 rfl ic_3 (sm_iadd (pc' := 825) d_L_law_824 rfl ?_)))
      refine sm_xld (pc' := 826) d_L_law_825 rfl (fun v103 => ?_)
      refine sm_callVi (ci := 0) (x := (some a1)) (av := [.inl v101, .inl v102, .inl v103]) (st := []) (mc := 0) (ms := 0) (pc' := 829) d_L_law_826 rfl (sd_C_dote (some a1) v101 v102 v103) m_lv rfl cv_C_dote w_ml_L_92 rfl rfl (by decide) (Nat.le_of_ble_eq_true rfl) rfl rfl (fun v104 => ?_)
      refine sm_aload_n (i := 2) (j := 3) (pc' := 830) d_L_law_829 rfl rfl rfl (sm_aload_n (i := 0) (j := 1) (pc' := 831) d_L_law_830 rfl rfl rfl (sm_iload_n (i := 3) (j := 0) (pc' := 832) d_L_law_831 rfl rfl rfl (sm_iconst (pc' := 833) d_L_law_832 rfl ic_1 (sm_iadd (pc' := 834) d_L_law_833 rfl ?_))))
      refine sm_xld (pc' := 835) d_L_law_834 rfl (fun v105 => ?_)
      refine sm_aload_n (i := 0) (j := 1) (pc' := 836) d_L_law_835 rfl rfl rfl (sm_iload_n (i := 3) (j := 0) (pc' := 837) d_L_law_836 rfl rfl rfl (sm_iconst (pc' := 838) d_L_law_837 rfl ic_2 (sm_iadd (pc' := 839) d_L_law_838 rfl ?_)))
      refine sm_xld (pc' := 840) d_L_law_839 rfl (fun v106 => ?_)
      refine sm_aload_n (i := 0) (j := 1) (pc' := 841) d_L_law_840 rfl rfl rfl (sm_iload_n (i := 3) (j := 0) (pc' := 842) d_L_law_841 rfl rfl rfl (sm_iconst (pc' := 843) d_L_law_842 rfl ic_3 (sm_iadd (pc' := 844) d_L_law_843 rfl ?_)))
      refine sm_xld (pc' := 845) d_L_law_844 rfl (fun v107 => ?_)
      refine sm_callVi (ci := 11) (x := (some a2)) (av := [.inl v105, .inl v106, .inl v107]) (st := [.inl v104]) (mc := 0) (ms := 0) (pc' := 848) d_L_law_845 rfl (sd_M_dote (some a2) v105 v106 v107) m_lv rfl cv_M_dote w_ml_L_96 rfl rfl (by decide) (Nat.le_of_ble_eq_true rfl) rfl rfl (fun v108 => ?_)
      refine sm_icmp_eq (tgt := 1841) (pc' := 851) d_L_law_848 rfl rfl ?_ ?_
      · refine sm_iinc (j := 0) (L' := [(3, .inl (t3 + 6)), (0, .inr (.inr (some (0, b, 2)))), (1, .inr (.inr (some a1))), (2, .inr (.inr (some a2)))]) (pc' := 1844) d_L_law_1841 rfl (v := (t3 + 6)) rfl (ix_6 _) (Nat.le_of_ble_eq_true rfl) rfl (sm_goto (tgt := 18) d_L_law_1844 rfl (sm_sub [0, 1, 2, 3] rfl ?_))
        exact sm_rt rfl
      · refine sm_iconst (pc' := 852) d_L_law_851 rfl ic_0 ?_
        exact sm_zreturn d_L_law_852 rfl (by decide) rfl
    refine sm_ite (fun hs33_18 => ?_) (fun hs33_18 => ?_)
    · refine sm_tabIn (off := 820) (tgt := 853) d_L_law_33 (by rw [hs33_18]; decide) (by rw [hs33_18]; decide) (by rw [hs33_18]; rfl) rfl ?_
      refine sm_wid (mc' := 0) (ms' := 0) (by decide) (by decide) ?_
      refine sm_aload_n (i := 1) (j := 2) (pc' := 854) d_L_law_853 rfl rfl rfl (sm_aload_n (i := 0) (j := 1) (pc' := 855) d_L_law_854 rfl rfl rfl (sm_iload_n (i := 3) (j := 0) (pc' := 856) d_L_law_855 rfl rfl rfl (sm_iconst (pc' := 857) d_L_law_856 rfl ic_1 (sm_iadd (pc' := 858) d_L_law_857 rfl ?_))))
      refine sm_xld (pc' := 859) d_L_law_858 rfl (fun v109 => ?_)
      refine sm_callVi (ci := 0) (x := (some a1)) (av := [.inl v109]) (st := []) (mc := 0) (ms := 0) (pc' := 862) d_L_law_859 rfl (sd_C_oil (some a1) v109) m_lv rfl cv_C_oil w_ml_L_97 rfl rfl (by decide) (Nat.le_of_ble_eq_true rfl) rfl rfl (fun v110 => ?_)
      refine sm_aload_n (i := 2) (j := 3) (pc' := 863) d_L_law_862 rfl rfl rfl (sm_aload_n (i := 0) (j := 1) (pc' := 864) d_L_law_863 rfl rfl rfl (sm_iload_n (i := 3) (j := 0) (pc' := 865) d_L_law_864 rfl rfl rfl (sm_iconst (pc' := 866) d_L_law_865 rfl ic_1 (sm_iadd (pc' := 867) d_L_law_866 rfl ?_))))
      refine sm_xld (pc' := 868) d_L_law_867 rfl (fun v111 => ?_)
      refine sm_callVi (ci := 11) (x := (some a2)) (av := [.inl v111]) (st := [.inl v110]) (mc := 0) (ms := 0) (pc' := 871) d_L_law_868 rfl (sd_M_oil (some a2) v111) m_lv rfl cv_M_oil w_ml_L_100 rfl rfl (by decide) (Nat.le_of_ble_eq_true rfl) rfl rfl (fun v112 => ?_)
      refine sm_icmp_eq (tgt := 1841) (pc' := 874) d_L_law_871 rfl rfl ?_ ?_
      · refine sm_iinc (j := 0) (L' := [(3, .inl (t3 + 6)), (0, .inr (.inr (some (0, b, 2)))), (1, .inr (.inr (some a1))), (2, .inr (.inr (some a2)))]) (pc' := 1844) d_L_law_1841 rfl (v := (t3 + 6)) rfl (ix_6 _) (Nat.le_of_ble_eq_true rfl) rfl (sm_goto (tgt := 18) d_L_law_1844 rfl (sm_sub [0, 1, 2, 3] rfl ?_))
        exact sm_rt rfl
      · refine sm_iconst (pc' := 875) d_L_law_874 rfl ic_0 ?_
        exact sm_zreturn d_L_law_875 rfl (by decide) rfl
    refine sm_ite (fun hs33_19 => ?_) (fun hs33_19 => ?_)
    · refine sm_tabIn (off := 843) (tgt := 876) d_L_law_33 (by rw [hs33_19]; decide) (by rw [hs33_19]; decide) (by rw [hs33_19]; rfl) rfl ?_
      refine sm_wid (mc' := 0) (ms' := 0) (by decide) (by decide) ?_
      refine sm_aload_n (i := 1) (j := 2) (pc' := 877) d_L_law_876 rfl rfl rfl (sm_aload_n (i := 0) (j := 1) (pc' := 878) d_L_law_877 rfl rfl rfl (sm_iload_n (i := 3) (j := 0) (pc' := 879) d_L_law_878 rfl rfl rfl (sm_iconst (pc' := 880) d_L_law_879 rfl ic_1 (sm_iadd (pc' := 881) d_L_law_880 rfl ?_))))
      refine sm_xld (pc' := 882) d_L_law_881 rfl (fun v113 => ?_)
      refine sm_aload_n (i := 0) (j := 1) (pc' := 883) d_L_law_882 rfl rfl rfl (sm_iload_n (i := 3) (j := 0) (pc' := 884) d_L_law_883 rfl rfl rfl (sm_iconst (pc' := 885) d_L_law_884 rfl ic_2 (sm_iadd (pc' := 886) d_L_law_885 rfl ?_)))
      refine sm_xld (pc' := 887) d_L_law_886 rfl (fun v114 => ?_)
      refine sm_callVi (ci := 0) (x := (some a1)) (av := [.inl v113, .inl v114]) (st := []) (mc := 0) (ms := 0) (pc' := 890) d_L_law_887 rfl (sd_C_coat (some a1) v113 v114) m_lv rfl cv_C_coat w_ml_L_101 rfl rfl (by decide) (Nat.le_of_ble_eq_true rfl) rfl rfl (fun v115 => ?_)
      refine sm_aload_n (i := 2) (j := 3) (pc' := 891) d_L_law_890 rfl rfl rfl (sm_aload_n (i := 0) (j := 1) (pc' := 892) d_L_law_891 rfl rfl rfl (sm_iload_n (i := 3) (j := 0) (pc' := 893) d_L_law_892 rfl rfl rfl (sm_iconst (pc' := 894) d_L_law_893 rfl ic_1 (sm_iadd (pc' := 895) d_L_law_894 rfl ?_))))
      refine sm_xld (pc' := 896) d_L_law_895 rfl (fun v116 => ?_)
      refine sm_aload_n (i := 0) (j := 1) (pc' := 897) d_L_law_896 rfl rfl rfl (sm_iload_n (i := 3) (j := 0) (pc' := 898) d_L_law_897 rfl rfl rfl (sm_iconst (pc' := 899) d_L_law_898 rfl ic_2 (sm_iadd (pc' := 900) d_L_law_899 rfl ?_)))
      refine sm_xld (pc' := 901) d_L_law_900 rfl (fun v117 => ?_)
      refine sm_callVi (ci := 11) (x := (some a2)) (av := [.inl v116, .inl v117]) (st := [.inl v115]) (mc := 0) (ms := 0) (pc' := 904) d_L_law_901 rfl (sd_M_coat (some a2) v116 v117) m_lv rfl cv_M_coat w_ml_L_104 rfl rfl (by decide) (Nat.le_of_ble_eq_true rfl) rfl rfl (fun v118 => ?_)
      refine sm_icmp_eq (tgt := 1841) (pc' := 907) d_L_law_904 rfl rfl ?_ ?_
      · refine sm_iinc (j := 0) (L' := [(3, .inl (t3 + 6)), (0, .inr (.inr (some (0, b, 2)))), (1, .inr (.inr (some a1))), (2, .inr (.inr (some a2)))]) (pc' := 1844) d_L_law_1841 rfl (v := (t3 + 6)) rfl (ix_6 _) (Nat.le_of_ble_eq_true rfl) rfl (sm_goto (tgt := 18) d_L_law_1844 rfl (sm_sub [0, 1, 2, 3] rfl ?_))
        exact sm_rt rfl
      · refine sm_iconst (pc' := 908) d_L_law_907 rfl ic_0 ?_
        exact sm_zreturn d_L_law_908 rfl (by decide) rfl
    refine sm_ite (fun hs33_20 => ?_) (fun hs33_20 => ?_)
    · refine sm_tabIn (off := 876) (tgt := 909) d_L_law_33 (by rw [hs33_20]; decide) (by rw [hs33_20]; decide) (by rw [hs33_20]; rfl) rfl ?_
      refine sm_wid (mc' := 0) (ms' := 0) (by decide) (by decide) ?_
      refine sm_aload_n (i := 1) (j := 2) (pc' := 910) d_L_law_909 rfl rfl rfl (sm_aload_n (i := 0) (j := 1) (pc' := 911) d_L_law_910 rfl rfl rfl (sm_iload_n (i := 3) (j := 0) (pc' := 912) d_L_law_911 rfl rfl rfl (sm_iconst (pc' := 913) d_L_law_912 rfl ic_1 (sm_iadd (pc' := 914) d_L_law_913 rfl ?_))))
      refine sm_xld (pc' := 915) d_L_law_914 rfl (fun v119 => ?_)
      refine sm_callVi (ci := 0) (x := (some a1)) (av := [.inl v119]) (st := []) (mc := 0) (ms := 0) (pc' := 918) d_L_law_915 rfl (sd_C_mend (some a1) v119) m_lv rfl cv_C_mend w_ml_L_105 rfl rfl (by decide) (Nat.le_of_ble_eq_true rfl) rfl rfl (fun v120 => ?_)
      refine sm_aload_n (i := 2) (j := 3) (pc' := 919) d_L_law_918 rfl rfl rfl (sm_aload_n (i := 0) (j := 1) (pc' := 920) d_L_law_919 rfl rfl rfl (sm_iload_n (i := 3) (j := 0) (pc' := 921) d_L_law_920 rfl rfl rfl (sm_iconst (pc' := 922) d_L_law_921 rfl ic_1 (sm_iadd (pc' := 923) d_L_law_922 rfl ?_))))
      refine sm_xld (pc' := 924) d_L_law_923 rfl (fun v121 => ?_)
      refine sm_callVi (ci := 11) (x := (some a2)) (av := [.inl v121]) (st := [.inl v120]) (mc := 0) (ms := 0) (pc' := 927) d_L_law_924 rfl (sd_M_mend (some a2) v121) m_lv rfl cv_M_mend w_ml_L_108 rfl rfl (by decide) (Nat.le_of_ble_eq_true rfl) rfl rfl (fun v122 => ?_)
      refine sm_icmp_eq (tgt := 1841) (pc' := 930) d_L_law_927 rfl rfl ?_ ?_
      · refine sm_iinc (j := 0) (L' := [(3, .inl (t3 + 6)), (0, .inr (.inr (some (0, b, 2)))), (1, .inr (.inr (some a1))), (2, .inr (.inr (some a2)))]) (pc' := 1844) d_L_law_1841 rfl (v := (t3 + 6)) rfl (ix_6 _) (Nat.le_of_ble_eq_true rfl) rfl (sm_goto (tgt := 18) d_L_law_1844 rfl (sm_sub [0, 1, 2, 3] rfl ?_))
        exact sm_rt rfl
      · refine sm_iconst (pc' := 931) d_L_law_930 rfl ic_0 ?_
        exact sm_zreturn d_L_law_931 rfl (by decide) rfl
    refine sm_ite (fun hs33_21 => ?_) (fun hs33_21 => ?_)
    · refine sm_tabIn (off := 899) (tgt := 932) d_L_law_33 (by rw [hs33_21]; decide) (by rw [hs33_21]; decide) (by rw [hs33_21]; rfl) rfl ?_
      refine sm_wid (mc' := 0) (ms' := 0) (by decide) (by decide) ?_
      refine sm_aload_n (i := 1) (j := 2) (pc' := 933) d_L_law_932 rfl rfl rfl (sm_aload_n (i := 0) (j := 1) (pc' := 934) d_L_law_933 rfl rfl rfl (sm_iload_n (i := 3) (j := 0) (pc' := 935) d_L_law_934 rfl rfl rfl (sm_iconst (pc' := 936) d_L_law_935 rfl ic_1 (sm_iadd (pc' := 937) d_L_law_936 rfl ?_))))
      refine sm_xld (pc' := 938) d_L_law_937 rfl (fun v123 => ?_)
      refine sm_callVi (ci := 0) (x := (some a1)) (av := [.inl v123]) (st := []) (mc := 0) (ms := 0) (pc' := 941) d_L_law_938 rfl (sd_C_breathe (some a1) v123) m_lv rfl cv_C_breathe w_ml_L_109 rfl rfl (by decide) (Nat.le_of_ble_eq_true rfl) rfl rfl (fun v124 => ?_)
      refine sm_aload_n (i := 2) (j := 3) (pc' := 942) d_L_law_941 rfl rfl rfl (sm_aload_n (i := 0) (j := 1) (pc' := 943) d_L_law_942 rfl rfl rfl (sm_iload_n (i := 3) (j := 0) (pc' := 944) d_L_law_943 rfl rfl rfl (sm_iconst (pc' := 945) d_L_law_944 rfl ic_1 (sm_iadd (pc' := 946) d_L_law_945 rfl ?_))))
      refine sm_xld (pc' := 947) d_L_law_946 rfl (fun v125 => ?_)
      refine sm_callVi (ci := 11) (x := (some a2)) (av := [.inl v125]) (st := [.inl v124]) (mc := 0) (ms := 0) (pc' := 950) d_L_law_947 rfl (sd_M_breathe (some a2) v125) m_lv rfl cv_M_breathe w_ml_L_112 rfl rfl (by decide) (Nat.le_of_ble_eq_true rfl) rfl rfl (fun v126 => ?_)
      refine sm_icmp_eq (tgt := 1841) (pc' := 953) d_L_law_950 rfl rfl ?_ ?_
      · refine sm_iinc (j := 0) (L' := [(3, .inl (t3 + 6)), (0, .inr (.inr (some (0, b, 2)))), (1, .inr (.inr (some a1))), (2, .inr (.inr (some a2)))]) (pc' := 1844) d_L_law_1841 rfl (v := (t3 + 6)) rfl (ix_6 _) (Nat.le_of_ble_eq_true rfl) rfl (sm_goto (tgt := 18) d_L_law_1844 rfl (sm_sub [0, 1, 2, 3] rfl ?_))
        exact sm_rt rfl
      · refine sm_iconst (pc' := 954) d_L_law_953 rfl ic_0 ?_
        exact sm_zreturn d_L_law_954 rfl (by decide) rfl
    refine sm_ite (fun hs33_22 => ?_) (fun hs33_22 => ?_)
    · refine sm_tabIn (off := 922) (tgt := 955) d_L_law_33 (by rw [hs33_22]; decide) (by rw [hs33_22]; decide) (by rw [hs33_22]; rfl) rfl ?_
      refine sm_wid (mc' := 0) (ms' := 0) (by decide) (by decide) ?_
      refine sm_aload_n (i := 1) (j := 2) (pc' := 956) d_L_law_955 rfl rfl rfl (sm_aload_n (i := 0) (j := 1) (pc' := 957) d_L_law_956 rfl rfl rfl (sm_iload_n (i := 3) (j := 0) (pc' := 958) d_L_law_957 rfl rfl rfl (sm_iconst (pc' := 959) d_L_law_958 rfl ic_1 (sm_iadd (pc' := 960) d_L_law_959 rfl ?_))))
      refine sm_xld (pc' := 961) d_L_law_960 rfl (fun v127 => ?_)
      refine sm_callVi (ci := 0) (x := (some a1)) (av := [.inl v127]) (st := []) (mc := 0) (ms := 0) (pc' := 964) d_L_law_961 rfl (sd_C_forge (some a1) v127) m_lv rfl cv_C_forge w_ml_L_113 rfl rfl (by decide) (Nat.le_of_ble_eq_true rfl) rfl rfl (fun v128 => ?_)
      refine sm_aload_n (i := 2) (j := 3) (pc' := 965) d_L_law_964 rfl rfl rfl (sm_aload_n (i := 0) (j := 1) (pc' := 966) d_L_law_965 rfl rfl rfl (sm_iload_n (i := 3) (j := 0) (pc' := 967) d_L_law_966 rfl rfl rfl (sm_iconst (pc' := 968) d_L_law_967 rfl ic_1 (sm_iadd (pc' := 969) d_L_law_968 rfl ?_))))
      refine sm_xld (pc' := 970) d_L_law_969 rfl (fun v129 => ?_)
      refine sm_callVi (ci := 11) (x := (some a2)) (av := [.inl v129]) (st := [.inl v128]) (mc := 0) (ms := 0) (pc' := 973) d_L_law_970 rfl (sd_M_forge (some a2) v129) m_lv rfl cv_M_forge w_ml_L_116 rfl rfl (by decide) (Nat.le_of_ble_eq_true rfl) rfl rfl (fun v130 => ?_)
      refine sm_icmp_eq (tgt := 1841) (pc' := 976) d_L_law_973 rfl rfl ?_ ?_
      · refine sm_iinc (j := 0) (L' := [(3, .inl (t3 + 6)), (0, .inr (.inr (some (0, b, 2)))), (1, .inr (.inr (some a1))), (2, .inr (.inr (some a2)))]) (pc' := 1844) d_L_law_1841 rfl (v := (t3 + 6)) rfl (ix_6 _) (Nat.le_of_ble_eq_true rfl) rfl (sm_goto (tgt := 18) d_L_law_1844 rfl (sm_sub [0, 1, 2, 3] rfl ?_))
        exact sm_rt rfl
      · refine sm_iconst (pc' := 977) d_L_law_976 rfl ic_0 ?_
        exact sm_zreturn d_L_law_977 rfl (by decide) rfl
    refine sm_ite (fun hs33_23 => ?_) (fun hs33_23 => ?_)
    · refine sm_tabIn (off := 945) (tgt := 978) d_L_law_33 (by rw [hs33_23]; decide) (by rw [hs33_23]; decide) (by rw [hs33_23]; rfl) rfl ?_
      refine sm_wid (mc' := 0) (ms' := 0) (by decide) (by decide) ?_
      refine sm_aload_n (i := 1) (j := 2) (pc' := 979) d_L_law_978 rfl rfl rfl (sm_aload_n (i := 0) (j := 1) (pc' := 980) d_L_law_979 rfl rfl rfl (sm_iload_n (i := 3) (j := 0) (pc' := 981) d_L_law_980 rfl rfl rfl (sm_iconst (pc' := 982) d_L_law_981 rfl ic_1 (sm_iadd (pc' := 983) d_L_law_982 rfl ?_))))
      refine sm_xld (pc' := 984) d_L_law_983 rfl (fun v131 => ?_)
      refine sm_aload_n (i := 0) (j := 1) (pc' := 985) d_L_law_984 rfl rfl rfl (sm_iload_n (i := 3) (j := 0) (pc' := 986) d_L_law_985 rfl rfl rfl (sm_iconst (pc' := 987) d_L_law_986 rfl ic_2 (sm_iadd (pc' := 988) d_L_law_987 rfl ?_)))
      refine sm_xld (pc' := 989) d_L_law_988 rfl (fun v132 => ?_)
      refine sm_bd (mid := fun (t133 : Int32) => .inl (997, [(0, .inr (.inr (some (0, b, 2)))), (1, .inr (.inr (some a1))), (2, .inr (.inr (some a2))), (3, .inl t3)], [.inl t133, .inl v131, .inr (.inr (some a1))])) ?_ (fun t133 => ?_)
      · refine sm_if_eq (tgt := 996) (pc' := 992) d_L_law_989 rfl rfl ?_ ?_
        · refine sm_iconst (pc' := 997) d_L_law_996 rfl ic_0 (sm_sub [1, 2, 3, 0] rfl ?_)
          exact sm_rt rfl
        · refine sm_iconst (pc' := 993) d_L_law_992 rfl ic_1 (sm_goto (tgt := 997) d_L_law_993 rfl (sm_sub [1, 2, 3, 0] rfl ?_))
          exact sm_rt rfl
      · refine sm_callVi (ci := 0) (x := (some a1)) (av := [.inl v131, .inl t133]) (st := []) (mc := 0) (ms := 0) (pc' := 1000) d_L_law_997 rfl (sd_C_born (some a1) v131 t133) m_lv rfl cv_C_born w_ml_L_117 rfl rfl (by decide) (Nat.le_of_ble_eq_true rfl) rfl rfl (fun v134 => ?_)
        refine sm_aload_n (i := 2) (j := 2) (pc' := 1001) d_L_law_1000 rfl rfl rfl (sm_aload_n (i := 0) (j := 0) (pc' := 1002) d_L_law_1001 rfl rfl rfl (sm_iload_n (i := 3) (j := 3) (pc' := 1003) d_L_law_1002 rfl rfl rfl (sm_iconst (pc' := 1004) d_L_law_1003 rfl ic_1 (sm_iadd (pc' := 1005) d_L_law_1004 rfl ?_))))
        refine sm_xld (pc' := 1006) d_L_law_1005 rfl (fun v135 => ?_)
        refine sm_aload_n (i := 0) (j := 0) (pc' := 1007) d_L_law_1006 rfl rfl rfl (sm_iload_n (i := 3) (j := 3) (pc' := 1008) d_L_law_1007 rfl rfl rfl (sm_iconst (pc' := 1009) d_L_law_1008 rfl ic_2 (sm_iadd (pc' := 1010) d_L_law_1009 rfl ?_)))
        refine sm_xld (pc' := 1011) d_L_law_1010 rfl (fun v136 => ?_)
        refine sm_bd (mid := fun (t137 : Int32) => .inl (1019, [(0, .inr (.inr (some (0, b, 2)))), (1, .inr (.inr (some a1))), (2, .inr (.inr (some a2))), (3, .inl t3)], [.inl t137, .inl v135, .inr (.inr (some a2)), .inl v134])) ?_ (fun t137 => ?_)
        · refine sm_if_eq (tgt := 1018) (pc' := 1014) d_L_law_1011 rfl rfl ?_ ?_
          · refine sm_iconst (pc' := 1019) d_L_law_1018 rfl ic_0 (sm_sub [0, 1, 2, 3] rfl ?_)
            exact sm_rt rfl
          · refine sm_iconst (pc' := 1015) d_L_law_1014 rfl ic_1 (sm_goto (tgt := 1019) d_L_law_1015 rfl (sm_sub [0, 1, 2, 3] rfl ?_))
            exact sm_rt rfl
        · refine sm_callVi (ci := 11) (x := (some a2)) (av := [.inl v135, .inl t137]) (st := [.inl v134]) (mc := 0) (ms := 0) (pc' := 1022) d_L_law_1019 rfl (sd_M_born (some a2) v135 t137) m_lv rfl cv_M_born w_ml_L_121 rfl rfl (by decide) (Nat.le_of_ble_eq_true rfl) rfl rfl (fun v138 => ?_)
          refine sm_icmp_eq (tgt := 1841) (pc' := 1025) d_L_law_1022 rfl rfl ?_ ?_
          · refine sm_iinc (j := 3) (L' := [(3, .inl (t3 + 6)), (0, .inr (.inr (some (0, b, 2)))), (1, .inr (.inr (some a1))), (2, .inr (.inr (some a2)))]) (pc' := 1844) d_L_law_1841 rfl (v := (t3 + 6)) rfl (ix_6 _) (Nat.le_of_ble_eq_true rfl) rfl (sm_goto (tgt := 18) d_L_law_1844 rfl (sm_sub [0, 1, 2, 3] rfl ?_))
            exact sm_rt rfl
          · refine sm_iconst (pc' := 1026) d_L_law_1025 rfl ic_0 ?_
            exact sm_zreturn d_L_law_1026 rfl (by decide) rfl
    refine sm_ite (fun hs33_24 => ?_) (fun hs33_24 => ?_)
    · refine sm_tabIn (off := 994) (tgt := 1027) d_L_law_33 (by rw [hs33_24]; decide) (by rw [hs33_24]; decide) (by rw [hs33_24]; rfl) rfl ?_
      refine sm_wid (mc' := 0) (ms' := 0) (by decide) (by decide) ?_
      refine sm_aload_n (i := 1) (j := 2) (pc' := 1028) d_L_law_1027 rfl rfl rfl (sm_aload_n (i := 0) (j := 1) (pc' := 1029) d_L_law_1028 rfl rfl rfl (sm_iload_n (i := 3) (j := 0) (pc' := 1030) d_L_law_1029 rfl rfl rfl (sm_iconst (pc' := 1031) d_L_law_1030 rfl ic_1 (sm_iadd (pc' := 1032) d_L_law_1031 rfl ?_))))
      refine sm_xld (pc' := 1033) d_L_law_1032 rfl (fun v139 => ?_)
      refine sm_aload_n (i := 0) (j := 1) (pc' := 1034) d_L_law_1033 rfl rfl rfl (sm_iload_n (i := 3) (j := 0) (pc' := 1035) d_L_law_1034 rfl rfl rfl (sm_iconst (pc' := 1036) d_L_law_1035 rfl ic_2 (sm_iadd (pc' := 1037) d_L_law_1036 rfl ?_)))
      refine sm_xld (pc' := 1038) d_L_law_1037 rfl (fun v140 => ?_)
      refine sm_callVi (ci := 0) (x := (some a1)) (av := [.inl v139, .inl v140]) (st := []) (mc := 0) (ms := 0) (pc' := 1041) d_L_law_1038 rfl (sd_C_rule (some a1) v139 v140) m_lv rfl cv_C_rule w_ml_L_122 rfl rfl (by decide) (Nat.le_of_ble_eq_true rfl) rfl rfl (fun v141 => ?_)
      refine sm_aload_n (i := 2) (j := 3) (pc' := 1042) d_L_law_1041 rfl rfl rfl (sm_aload_n (i := 0) (j := 1) (pc' := 1043) d_L_law_1042 rfl rfl rfl (sm_iload_n (i := 3) (j := 0) (pc' := 1044) d_L_law_1043 rfl rfl rfl (sm_iconst (pc' := 1045) d_L_law_1044 rfl ic_1 (sm_iadd (pc' := 1046) d_L_law_1045 rfl ?_))))
      refine sm_xld (pc' := 1047) d_L_law_1046 rfl (fun v142 => ?_)
      refine sm_aload_n (i := 0) (j := 1) (pc' := 1048) d_L_law_1047 rfl rfl rfl (sm_iload_n (i := 3) (j := 0) (pc' := 1049) d_L_law_1048 rfl rfl rfl (sm_iconst (pc' := 1050) d_L_law_1049 rfl ic_2 (sm_iadd (pc' := 1051) d_L_law_1050 rfl ?_)))
      refine sm_xld (pc' := 1052) d_L_law_1051 rfl (fun v143 => ?_)
      refine sm_callVi (ci := 11) (x := (some a2)) (av := [.inl v142, .inl v143]) (st := [.inl v141]) (mc := 0) (ms := 0) (pc' := 1055) d_L_law_1052 rfl (sd_M_rule (some a2) v142 v143) m_lv rfl cv_M_rule w_ml_L_126 rfl rfl (by decide) (Nat.le_of_ble_eq_true rfl) rfl rfl (fun v144 => ?_)
      refine sm_icmp_eq (tgt := 1841) (pc' := 1058) d_L_law_1055 rfl rfl ?_ ?_
      · refine sm_iinc (j := 0) (L' := [(3, .inl (t3 + 6)), (0, .inr (.inr (some (0, b, 2)))), (1, .inr (.inr (some a1))), (2, .inr (.inr (some a2)))]) (pc' := 1844) d_L_law_1841 rfl (v := (t3 + 6)) rfl (ix_6 _) (Nat.le_of_ble_eq_true rfl) rfl (sm_goto (tgt := 18) d_L_law_1844 rfl (sm_sub [0, 1, 2, 3] rfl ?_))
        exact sm_rt rfl
      · refine sm_iconst (pc' := 1059) d_L_law_1058 rfl ic_0 ?_
        exact sm_zreturn d_L_law_1059 rfl (by decide) rfl
    refine sm_ite (fun hs33_25 => ?_) (fun hs33_25 => ?_)
    · refine sm_tabIn (off := 1027) (tgt := 1060) d_L_law_33 (by rw [hs33_25]; decide) (by rw [hs33_25]; decide) (by rw [hs33_25]; rfl) rfl ?_
      refine sm_wid (mc' := 0) (ms' := 0) (by decide) (by decide) ?_
      refine sm_aload_n (i := 1) (j := 2) (pc' := 1061) d_L_law_1060 rfl rfl rfl (sm_aload_n (i := 0) (j := 1) (pc' := 1062) d_L_law_1061 rfl rfl rfl (sm_iload_n (i := 3) (j := 0) (pc' := 1063) d_L_law_1062 rfl rfl rfl (sm_iconst (pc' := 1064) d_L_law_1063 rfl ic_1 (sm_iadd (pc' := 1065) d_L_law_1064 rfl ?_))))
      refine sm_xld (pc' := 1066) d_L_law_1065 rfl (fun v145 => ?_)
      refine sm_aload_n (i := 0) (j := 1) (pc' := 1067) d_L_law_1066 rfl rfl rfl (sm_iload_n (i := 3) (j := 0) (pc' := 1068) d_L_law_1067 rfl rfl rfl (sm_iconst (pc' := 1069) d_L_law_1068 rfl ic_2 (sm_iadd (pc' := 1070) d_L_law_1069 rfl ?_)))
      refine sm_xld (pc' := 1071) d_L_law_1070 rfl (fun v146 => ?_)
      refine sm_callVi (ci := 0) (x := (some a1)) (av := [.inl v145, .inl v146]) (st := []) (mc := 0) (ms := 0) (pc' := 1074) d_L_law_1071 rfl (sd_C_rustIn (some a1) v145 v146) m_lv rfl cv_C_rustIn w_ml_L_127 rfl rfl (by decide) (Nat.le_of_ble_eq_true rfl) rfl rfl (fun v147 => ?_)
      refine sm_aload_n (i := 2) (j := 3) (pc' := 1075) d_L_law_1074 rfl rfl rfl (sm_aload_n (i := 0) (j := 1) (pc' := 1076) d_L_law_1075 rfl rfl rfl (sm_iload_n (i := 3) (j := 0) (pc' := 1077) d_L_law_1076 rfl rfl rfl (sm_iconst (pc' := 1078) d_L_law_1077 rfl ic_1 (sm_iadd (pc' := 1079) d_L_law_1078 rfl ?_))))
      refine sm_xld (pc' := 1080) d_L_law_1079 rfl (fun v148 => ?_)
      refine sm_aload_n (i := 0) (j := 1) (pc' := 1081) d_L_law_1080 rfl rfl rfl (sm_iload_n (i := 3) (j := 0) (pc' := 1082) d_L_law_1081 rfl rfl rfl (sm_iconst (pc' := 1083) d_L_law_1082 rfl ic_2 (sm_iadd (pc' := 1084) d_L_law_1083 rfl ?_)))
      refine sm_xld (pc' := 1085) d_L_law_1084 rfl (fun v149 => ?_)
      refine sm_callVi (ci := 11) (x := (some a2)) (av := [.inl v148, .inl v149]) (st := [.inl v147]) (mc := 0) (ms := 0) (pc' := 1088) d_L_law_1085 rfl (sd_M_rustIn (some a2) v148 v149) m_lv rfl cv_M_rustIn w_ml_L_130 rfl rfl (by decide) (Nat.le_of_ble_eq_true rfl) rfl rfl (fun v150 => ?_)
      refine sm_icmp_eq (tgt := 1841) (pc' := 1091) d_L_law_1088 rfl rfl ?_ ?_
      · refine sm_iinc (j := 0) (L' := [(3, .inl (t3 + 6)), (0, .inr (.inr (some (0, b, 2)))), (1, .inr (.inr (some a1))), (2, .inr (.inr (some a2)))]) (pc' := 1844) d_L_law_1841 rfl (v := (t3 + 6)) rfl (ix_6 _) (Nat.le_of_ble_eq_true rfl) rfl (sm_goto (tgt := 18) d_L_law_1844 rfl (sm_sub [0, 1, 2, 3] rfl ?_))
        exact sm_rt rfl
      · refine sm_iconst (pc' := 1092) d_L_law_1091 rfl ic_0 ?_
        exact sm_zreturn d_L_law_1092 rfl (by decide) rfl
    refine sm_ite (fun hs33_26 => ?_) (fun hs33_26 => ?_)
    · refine sm_tabIn (off := 1060) (tgt := 1093) d_L_law_33 (by rw [hs33_26]; decide) (by rw [hs33_26]; decide) (by rw [hs33_26]; rfl) rfl ?_
      refine sm_wid (mc' := 0) (ms' := 0) (by decide) (by decide) ?_
      refine sm_aload_n (i := 1) (j := 2) (pc' := 1094) d_L_law_1093 rfl rfl rfl (sm_aload_n (i := 0) (j := 1) (pc' := 1095) d_L_law_1094 rfl rfl rfl (sm_iload_n (i := 3) (j := 0) (pc' := 1096) d_L_law_1095 rfl rfl rfl (sm_iconst (pc' := 1097) d_L_law_1096 rfl ic_1 (sm_iadd (pc' := 1098) d_L_law_1097 rfl ?_))))
      refine sm_xld (pc' := 1099) d_L_law_1098 rfl (fun v151 => ?_)
      refine sm_callVi (ci := 0) (x := (some a1)) (av := [.inl v151]) (st := []) (mc := 0) (ms := 0) (pc' := 1102) d_L_law_1099 rfl (sd_C_throughIn (some a1) v151) m_lv rfl cv_C_throughIn w_ml_L_131 rfl rfl (by decide) (Nat.le_of_ble_eq_true rfl) rfl rfl (fun v152 => ?_)
      refine sm_aload_n (i := 2) (j := 3) (pc' := 1103) d_L_law_1102 rfl rfl rfl (sm_aload_n (i := 0) (j := 1) (pc' := 1104) d_L_law_1103 rfl rfl rfl (sm_iload_n (i := 3) (j := 0) (pc' := 1105) d_L_law_1104 rfl rfl rfl (sm_iconst (pc' := 1106) d_L_law_1105 rfl ic_1 (sm_iadd (pc' := 1107) d_L_law_1106 rfl ?_))))
      refine sm_xld (pc' := 1108) d_L_law_1107 rfl (fun v153 => ?_)
      refine sm_callVi (ci := 11) (x := (some a2)) (av := [.inl v153]) (st := [.inl v152]) (mc := 0) (ms := 0) (pc' := 1111) d_L_law_1108 rfl (sd_M_throughIn (some a2) v153) m_lv rfl cv_M_throughIn w_ml_L_134 rfl rfl (by decide) (Nat.le_of_ble_eq_true rfl) rfl rfl (fun v154 => ?_)
      refine sm_icmp_eq (tgt := 1841) (pc' := 1114) d_L_law_1111 rfl rfl ?_ ?_
      · refine sm_iinc (j := 0) (L' := [(3, .inl (t3 + 6)), (0, .inr (.inr (some (0, b, 2)))), (1, .inr (.inr (some a1))), (2, .inr (.inr (some a2)))]) (pc' := 1844) d_L_law_1841 rfl (v := (t3 + 6)) rfl (ix_6 _) (Nat.le_of_ble_eq_true rfl) rfl (sm_goto (tgt := 18) d_L_law_1844 rfl (sm_sub [0, 1, 2, 3] rfl ?_))
        exact sm_rt rfl
      · refine sm_iconst (pc' := 1115) d_L_law_1114 rfl ic_0 ?_
        exact sm_zreturn d_L_law_1115 rfl (by decide) rfl
    refine sm_ite (fun hs33_27 => ?_) (fun hs33_27 => ?_)
    · refine sm_tabIn (off := 1083) (tgt := 1116) d_L_law_33 (by rw [hs33_27]; decide) (by rw [hs33_27]; decide) (by rw [hs33_27]; rfl) rfl ?_
      refine sm_wid (mc' := 0) (ms' := 0) (by decide) (by decide) ?_
      refine sm_aload_n (i := 1) (j := 2) (pc' := 1117) d_L_law_1116 rfl rfl rfl ?_
      refine sm_callVi (ci := 0) (x := (some a1)) (av := []) (st := []) (mc := 0) (ms := 0) (pc' := 1120) d_L_law_1117 rfl (sd_C_firstThrough (some a1)) m_lv rfl cv_C_firstThrough w_ml_L_135 rfl rfl (by decide) (Nat.le_of_ble_eq_true rfl) rfl rfl (fun v155 => ?_)
      refine sm_aload_n (i := 2) (j := 3) (pc' := 1121) d_L_law_1120 rfl rfl rfl ?_
      refine sm_callVi (ci := 11) (x := (some a2)) (av := []) (st := [.inl v155]) (mc := 0) (ms := 0) (pc' := 1124) d_L_law_1121 rfl (sd_M_firstThrough (some a2)) m_lv rfl cv_M_firstThrough w_ml_L_138 rfl rfl (by decide) (Nat.le_of_ble_eq_true rfl) rfl rfl (fun v156 => ?_)
      refine sm_icmp_eq (tgt := 1841) (pc' := 1127) d_L_law_1124 rfl rfl ?_ ?_
      · refine sm_iinc (j := 0) (L' := [(3, .inl (t3 + 6)), (0, .inr (.inr (some (0, b, 2)))), (1, .inr (.inr (some a1))), (2, .inr (.inr (some a2)))]) (pc' := 1844) d_L_law_1841 rfl (v := (t3 + 6)) rfl (ix_6 _) (Nat.le_of_ble_eq_true rfl) rfl (sm_goto (tgt := 18) d_L_law_1844 rfl (sm_sub [0, 1, 2, 3] rfl ?_))
        exact sm_rt rfl
      · refine sm_iconst (pc' := 1128) d_L_law_1127 rfl ic_0 ?_
        exact sm_zreturn d_L_law_1128 rfl (by decide) rfl
    refine sm_ite (fun hs33_28 => ?_) (fun hs33_28 => ?_)
    · refine sm_tabIn (off := 1096) (tgt := 1129) d_L_law_33 (by rw [hs33_28]; decide) (by rw [hs33_28]; decide) (by rw [hs33_28]; rfl) rfl ?_
      refine sm_wid (mc' := 0) (ms' := 0) (by decide) (by decide) ?_
      refine sm_aload_n (i := 1) (j := 2) (pc' := 1130) d_L_law_1129 rfl rfl rfl (sm_aload_n (i := 0) (j := 1) (pc' := 1131) d_L_law_1130 rfl rfl rfl (sm_iload_n (i := 3) (j := 0) (pc' := 1132) d_L_law_1131 rfl rfl rfl (sm_iconst (pc' := 1133) d_L_law_1132 rfl ic_1 (sm_iadd (pc' := 1134) d_L_law_1133 rfl ?_))))
      refine sm_xld (pc' := 1135) d_L_law_1134 rfl (fun v157 => ?_)
      refine sm_callVi (ci := 0) (x := (some a1)) (av := [.inl v157]) (st := []) (mc := 0) (ms := 0) (pc' := 1138) d_L_law_1135 rfl (sd_C_throughBy (some a1) v157) m_lv rfl cv_C_throughBy w_ml_L_139 rfl rfl (by decide) (Nat.le_of_ble_eq_true rfl) rfl rfl (fun v158 => ?_)
      refine sm_aload_n (i := 2) (j := 3) (pc' := 1139) d_L_law_1138 rfl rfl rfl (sm_aload_n (i := 0) (j := 1) (pc' := 1140) d_L_law_1139 rfl rfl rfl (sm_iload_n (i := 3) (j := 0) (pc' := 1141) d_L_law_1140 rfl rfl rfl (sm_iconst (pc' := 1142) d_L_law_1141 rfl ic_1 (sm_iadd (pc' := 1143) d_L_law_1142 rfl ?_))))
      refine sm_xld (pc' := 1144) d_L_law_1143 rfl (fun v159 => ?_)
      refine sm_callVi (ci := 11) (x := (some a2)) (av := [.inl v159]) (st := [.inl v158]) (mc := 0) (ms := 0) (pc' := 1147) d_L_law_1144 rfl (sd_M_throughBy (some a2) v159) m_lv rfl cv_M_throughBy w_ml_L_142 rfl rfl (by decide) (Nat.le_of_ble_eq_true rfl) rfl rfl (fun v160 => ?_)
      refine sm_icmp_eq (tgt := 1841) (pc' := 1150) d_L_law_1147 rfl rfl ?_ ?_
      · refine sm_iinc (j := 0) (L' := [(3, .inl (t3 + 6)), (0, .inr (.inr (some (0, b, 2)))), (1, .inr (.inr (some a1))), (2, .inr (.inr (some a2)))]) (pc' := 1844) d_L_law_1841 rfl (v := (t3 + 6)) rfl (ix_6 _) (Nat.le_of_ble_eq_true rfl) rfl (sm_goto (tgt := 18) d_L_law_1844 rfl (sm_sub [0, 1, 2, 3] rfl ?_))
        exact sm_rt rfl
      · refine sm_iconst (pc' := 1151) d_L_law_1150 rfl ic_0 ?_
        exact sm_zreturn d_L_law_1151 rfl (by decide) rfl
    refine sm_ite (fun hs33_29 => ?_) (fun hs33_29 => ?_)
    · refine sm_tabIn (off := 1119) (tgt := 1152) d_L_law_33 (by rw [hs33_29]; decide) (by rw [hs33_29]; decide) (by rw [hs33_29]; rfl) rfl ?_
      refine sm_wid (mc' := 0) (ms' := 0) (by decide) (by decide) ?_
      refine sm_aload_n (i := 1) (j := 2) (pc' := 1153) d_L_law_1152 rfl rfl rfl (sm_aload_n (i := 0) (j := 1) (pc' := 1154) d_L_law_1153 rfl rfl rfl (sm_iload_n (i := 3) (j := 0) (pc' := 1155) d_L_law_1154 rfl rfl rfl (sm_iconst (pc' := 1156) d_L_law_1155 rfl ic_1 (sm_iadd (pc' := 1157) d_L_law_1156 rfl ?_))))
      refine sm_xld (pc' := 1158) d_L_law_1157 rfl (fun v161 => ?_)
      refine sm_callVi (ci := 0) (x := (some a1)) (av := [.inl v161]) (st := []) (mc := 0) (ms := 0) (pc' := 1161) d_L_law_1158 rfl (sd_C_showsIn (some a1) v161) m_lv rfl cv_C_showsIn w_ml_L_143 rfl rfl (by decide) (Nat.le_of_ble_eq_true rfl) rfl rfl (fun v162 => ?_)
      refine sm_aload_n (i := 2) (j := 3) (pc' := 1162) d_L_law_1161 rfl rfl rfl (sm_aload_n (i := 0) (j := 1) (pc' := 1163) d_L_law_1162 rfl rfl rfl (sm_iload_n (i := 3) (j := 0) (pc' := 1164) d_L_law_1163 rfl rfl rfl (sm_iconst (pc' := 1165) d_L_law_1164 rfl ic_1 (sm_iadd (pc' := 1166) d_L_law_1165 rfl ?_))))
      refine sm_xld (pc' := 1167) d_L_law_1166 rfl (fun v163 => ?_)
      refine sm_callVi (ci := 11) (x := (some a2)) (av := [.inl v163]) (st := [.inl v162]) (mc := 0) (ms := 0) (pc' := 1170) d_L_law_1167 rfl (sd_M_showsIn (some a2) v163) m_lv rfl cv_M_showsIn w_ml_L_146 rfl rfl (by decide) (Nat.le_of_ble_eq_true rfl) rfl rfl (fun v164 => ?_)
      refine sm_icmp_eq (tgt := 1841) (pc' := 1173) d_L_law_1170 rfl rfl ?_ ?_
      · refine sm_iinc (j := 0) (L' := [(3, .inl (t3 + 6)), (0, .inr (.inr (some (0, b, 2)))), (1, .inr (.inr (some a1))), (2, .inr (.inr (some a2)))]) (pc' := 1844) d_L_law_1841 rfl (v := (t3 + 6)) rfl (ix_6 _) (Nat.le_of_ble_eq_true rfl) rfl (sm_goto (tgt := 18) d_L_law_1844 rfl (sm_sub [0, 1, 2, 3] rfl ?_))
        exact sm_rt rfl
      · refine sm_iconst (pc' := 1174) d_L_law_1173 rfl ic_0 ?_
        exact sm_zreturn d_L_law_1174 rfl (by decide) rfl
    refine sm_ite (fun hs33_30 => ?_) (fun hs33_30 => ?_)
    · refine sm_tabIn (off := 1142) (tgt := 1175) d_L_law_33 (by rw [hs33_30]; decide) (by rw [hs33_30]; decide) (by rw [hs33_30]; rfl) rfl ?_
      refine sm_wid (mc' := 0) (ms' := 0) (by decide) (by decide) ?_
      refine sm_aload_n (i := 1) (j := 2) (pc' := 1176) d_L_law_1175 rfl rfl rfl (sm_aload_n (i := 0) (j := 1) (pc' := 1177) d_L_law_1176 rfl rfl rfl (sm_iload_n (i := 3) (j := 0) (pc' := 1178) d_L_law_1177 rfl rfl rfl (sm_iconst (pc' := 1179) d_L_law_1178 rfl ic_1 (sm_iadd (pc' := 1180) d_L_law_1179 rfl ?_))))
      refine sm_xld (pc' := 1181) d_L_law_1180 rfl (fun v165 => ?_)
      refine sm_callVi (ci := 0) (x := (some a1)) (av := [.inl v165]) (st := []) (mc := 0) (ms := 0) (pc' := 1184) d_L_law_1181 rfl (sd_C_diesIn (some a1) v165) m_lv rfl cv_C_diesIn w_ml_L_147 rfl rfl (by decide) (Nat.le_of_ble_eq_true rfl) rfl rfl (fun v166 => ?_)
      refine sm_aload_n (i := 2) (j := 3) (pc' := 1185) d_L_law_1184 rfl rfl rfl (sm_aload_n (i := 0) (j := 1) (pc' := 1186) d_L_law_1185 rfl rfl rfl (sm_iload_n (i := 3) (j := 0) (pc' := 1187) d_L_law_1186 rfl rfl rfl (sm_iconst (pc' := 1188) d_L_law_1187 rfl ic_1 (sm_iadd (pc' := 1189) d_L_law_1188 rfl ?_))))
      refine sm_xld (pc' := 1190) d_L_law_1189 rfl (fun v167 => ?_)
      refine sm_callVi (ci := 11) (x := (some a2)) (av := [.inl v167]) (st := [.inl v166]) (mc := 0) (ms := 0) (pc' := 1193) d_L_law_1190 rfl (sd_M_diesIn (some a2) v167) m_lv rfl cv_M_diesIn w_ml_L_150 rfl rfl (by decide) (Nat.le_of_ble_eq_true rfl) rfl rfl (fun v168 => ?_)
      refine sm_icmp_eq (tgt := 1841) (pc' := 1196) d_L_law_1193 rfl rfl ?_ ?_
      · refine sm_iinc (j := 0) (L' := [(3, .inl (t3 + 6)), (0, .inr (.inr (some (0, b, 2)))), (1, .inr (.inr (some a1))), (2, .inr (.inr (some a2)))]) (pc' := 1844) d_L_law_1841 rfl (v := (t3 + 6)) rfl (ix_6 _) (Nat.le_of_ble_eq_true rfl) rfl (sm_goto (tgt := 18) d_L_law_1844 rfl (sm_sub [0, 1, 2, 3] rfl ?_))
        exact sm_rt rfl
      · refine sm_iconst (pc' := 1197) d_L_law_1196 rfl ic_0 ?_
        exact sm_zreturn d_L_law_1197 rfl (by decide) rfl
    refine sm_ite (fun hs33_31 => ?_) (fun hs33_31 => ?_)
    · refine sm_tabIn (off := 1165) (tgt := 1198) d_L_law_33 (by rw [hs33_31]; decide) (by rw [hs33_31]; decide) (by rw [hs33_31]; rfl) rfl ?_
      refine sm_wid (mc' := 0) (ms' := 0) (by decide) (by decide) ?_
      refine sm_aload_n (i := 1) (j := 2) (pc' := 1199) d_L_law_1198 rfl rfl rfl (sm_aload_n (i := 0) (j := 1) (pc' := 1200) d_L_law_1199 rfl rfl rfl (sm_iload_n (i := 3) (j := 0) (pc' := 1201) d_L_law_1200 rfl rfl rfl (sm_iconst (pc' := 1202) d_L_law_1201 rfl ic_1 (sm_iadd (pc' := 1203) d_L_law_1202 rfl ?_))))
      refine sm_xld (pc' := 1204) d_L_law_1203 rfl (fun v169 => ?_)
      refine sm_callVi (ci := 0) (x := (some a1)) (av := [.inl v169]) (st := []) (mc := 0) (ms := 0) (pc' := 1207) d_L_law_1204 rfl (sd_C_worst (some a1) v169) m_lv rfl cv_C_worst w_ml_L_151 rfl rfl (by decide) (Nat.le_of_ble_eq_true rfl) rfl rfl (fun v170 => ?_)
      refine sm_aload_n (i := 2) (j := 3) (pc' := 1208) d_L_law_1207 rfl rfl rfl (sm_aload_n (i := 0) (j := 1) (pc' := 1209) d_L_law_1208 rfl rfl rfl (sm_iload_n (i := 3) (j := 0) (pc' := 1210) d_L_law_1209 rfl rfl rfl (sm_iconst (pc' := 1211) d_L_law_1210 rfl ic_1 (sm_iadd (pc' := 1212) d_L_law_1211 rfl ?_))))
      refine sm_xld (pc' := 1213) d_L_law_1212 rfl (fun v171 => ?_)
      refine sm_callVi (ci := 11) (x := (some a2)) (av := [.inl v171]) (st := [.inl v170]) (mc := 0) (ms := 0) (pc' := 1216) d_L_law_1213 rfl (sd_M_worst (some a2) v171) m_lv rfl cv_M_worst w_ml_L_154 rfl rfl (by decide) (Nat.le_of_ble_eq_true rfl) rfl rfl (fun v172 => ?_)
      refine sm_icmp_eq (tgt := 1841) (pc' := 1219) d_L_law_1216 rfl rfl ?_ ?_
      · refine sm_iinc (j := 0) (L' := [(3, .inl (t3 + 6)), (0, .inr (.inr (some (0, b, 2)))), (1, .inr (.inr (some a1))), (2, .inr (.inr (some a2)))]) (pc' := 1844) d_L_law_1841 rfl (v := (t3 + 6)) rfl (ix_6 _) (Nat.le_of_ble_eq_true rfl) rfl (sm_goto (tgt := 18) d_L_law_1844 rfl (sm_sub [0, 1, 2, 3] rfl ?_))
        exact sm_rt rfl
      · refine sm_iconst (pc' := 1220) d_L_law_1219 rfl ic_0 ?_
        exact sm_zreturn d_L_law_1220 rfl (by decide) rfl
    refine sm_ite (fun hs33_32 => ?_) (fun hs33_32 => ?_)
    · refine sm_tabIn (off := 1188) (tgt := 1221) d_L_law_33 (by rw [hs33_32]; decide) (by rw [hs33_32]; decide) (by rw [hs33_32]; rfl) rfl ?_
      refine sm_wid (mc' := 0) (ms' := 0) (by decide) (by decide) ?_
      refine sm_aload_n (i := 1) (j := 2) (pc' := 1222) d_L_law_1221 rfl rfl rfl (sm_aload_n (i := 0) (j := 1) (pc' := 1223) d_L_law_1222 rfl rfl rfl (sm_iload_n (i := 3) (j := 0) (pc' := 1224) d_L_law_1223 rfl rfl rfl (sm_iconst (pc' := 1225) d_L_law_1224 rfl ic_1 (sm_iadd (pc' := 1226) d_L_law_1225 rfl ?_))))
      refine sm_xld (pc' := 1227) d_L_law_1226 rfl (fun v173 => ?_)
      refine sm_aload_n (i := 0) (j := 1) (pc' := 1228) d_L_law_1227 rfl rfl rfl (sm_iload_n (i := 3) (j := 0) (pc' := 1229) d_L_law_1228 rfl rfl rfl (sm_iconst (pc' := 1230) d_L_law_1229 rfl ic_2 (sm_iadd (pc' := 1231) d_L_law_1230 rfl ?_)))
      refine sm_xld (pc' := 1232) d_L_law_1231 rfl (fun v174 => ?_)
      refine sm_callVi (ci := 0) (x := (some a1)) (av := [.inl v173, .inl v174]) (st := []) (mc := 0) (ms := 0) (pc' := 1235) d_L_law_1232 rfl (sd_C_jars (some a1) v173 v174) m_lv rfl cv_C_jars w_ml_L_155 rfl rfl (by decide) (Nat.le_of_ble_eq_true rfl) rfl rfl (fun v175 => ?_)
      refine sm_aload_n (i := 2) (j := 3) (pc' := 1236) d_L_law_1235 rfl rfl rfl (sm_aload_n (i := 0) (j := 1) (pc' := 1237) d_L_law_1236 rfl rfl rfl (sm_iload_n (i := 3) (j := 0) (pc' := 1238) d_L_law_1237 rfl rfl rfl (sm_iconst (pc' := 1239) d_L_law_1238 rfl ic_1 (sm_iadd (pc' := 1240) d_L_law_1239 rfl ?_))))
      refine sm_xld (pc' := 1241) d_L_law_1240 rfl (fun v176 => ?_)
      refine sm_aload_n (i := 0) (j := 1) (pc' := 1242) d_L_law_1241 rfl rfl rfl (sm_iload_n (i := 3) (j := 0) (pc' := 1243) d_L_law_1242 rfl rfl rfl (sm_iconst (pc' := 1244) d_L_law_1243 rfl ic_2 (sm_iadd (pc' := 1245) d_L_law_1244 rfl ?_)))
      refine sm_xld (pc' := 1246) d_L_law_1245 rfl (fun v177 => ?_)
      refine sm_callVi (ci := 11) (x := (some a2)) (av := [.inl v176, .inl v177]) (st := [.inl v175]) (mc := 0) (ms := 0) (pc' := 1249) d_L_law_1246 rfl (sd_M_jars (some a2) v176 v177) m_lv rfl cv_M_jars w_ml_L_158 rfl rfl (by decide) (Nat.le_of_ble_eq_true rfl) rfl rfl (fun v178 => ?_)
      refine sm_icmp_eq (tgt := 1841) (pc' := 1252) d_L_law_1249 rfl rfl ?_ ?_
      · refine sm_iinc (j := 0) (L' := [(3, .inl (t3 + 6)), (0, .inr (.inr (some (0, b, 2)))), (1, .inr (.inr (some a1))), (2, .inr (.inr (some a2)))]) (pc' := 1844) d_L_law_1841 rfl (v := (t3 + 6)) rfl (ix_6 _) (Nat.le_of_ble_eq_true rfl) rfl (sm_goto (tgt := 18) d_L_law_1844 rfl (sm_sub [0, 1, 2, 3] rfl ?_))
        exact sm_rt rfl
      · refine sm_iconst (pc' := 1253) d_L_law_1252 rfl ic_0 ?_
        exact sm_zreturn d_L_law_1253 rfl (by decide) rfl
    refine sm_ite (fun hs33_33 => ?_) (fun hs33_33 => ?_)
    · refine sm_tabIn (off := 1221) (tgt := 1254) d_L_law_33 (by rw [hs33_33]; decide) (by rw [hs33_33]; decide) (by rw [hs33_33]; rfl) rfl ?_
      refine sm_wid (mc' := 0) (ms' := 0) (by decide) (by decide) ?_
      refine sm_aload_n (i := 1) (j := 2) (pc' := 1255) d_L_law_1254 rfl rfl rfl (sm_aload_n (i := 0) (j := 1) (pc' := 1256) d_L_law_1255 rfl rfl rfl (sm_iload_n (i := 3) (j := 0) (pc' := 1257) d_L_law_1256 rfl rfl rfl (sm_iconst (pc' := 1258) d_L_law_1257 rfl ic_1 (sm_iadd (pc' := 1259) d_L_law_1258 rfl ?_))))
      refine sm_xld (pc' := 1260) d_L_law_1259 rfl (fun v179 => ?_)
      refine sm_aload_n (i := 0) (j := 1) (pc' := 1261) d_L_law_1260 rfl rfl rfl (sm_iload_n (i := 3) (j := 0) (pc' := 1262) d_L_law_1261 rfl rfl rfl (sm_iconst (pc' := 1263) d_L_law_1262 rfl ic_2 (sm_iadd (pc' := 1264) d_L_law_1263 rfl ?_)))
      refine sm_xld (pc' := 1265) d_L_law_1264 rfl (fun v180 => ?_)
      refine sm_callVi (ci := 0) (x := (some a1)) (av := [.inl v179, .inl v180]) (st := []) (mc := 0) (ms := 0) (pc' := 1268) d_L_law_1265 rfl (sd_C_jarsFor (some a1) v179 v180) m_lv rfl cv_C_jarsFor w_ml_L_159 rfl rfl (by decide) (Nat.le_of_ble_eq_true rfl) rfl rfl (fun v181 => ?_)
      refine sm_aload_n (i := 2) (j := 3) (pc' := 1269) d_L_law_1268 rfl rfl rfl (sm_aload_n (i := 0) (j := 1) (pc' := 1270) d_L_law_1269 rfl rfl rfl (sm_iload_n (i := 3) (j := 0) (pc' := 1271) d_L_law_1270 rfl rfl rfl (sm_iconst (pc' := 1272) d_L_law_1271 rfl ic_1 (sm_iadd (pc' := 1273) d_L_law_1272 rfl ?_))))
      refine sm_xld (pc' := 1274) d_L_law_1273 rfl (fun v182 => ?_)
      refine sm_aload_n (i := 0) (j := 1) (pc' := 1275) d_L_law_1274 rfl rfl rfl (sm_iload_n (i := 3) (j := 0) (pc' := 1276) d_L_law_1275 rfl rfl rfl (sm_iconst (pc' := 1277) d_L_law_1276 rfl ic_2 (sm_iadd (pc' := 1278) d_L_law_1277 rfl ?_)))
      refine sm_xld (pc' := 1279) d_L_law_1278 rfl (fun v183 => ?_)
      refine sm_callVi (ci := 11) (x := (some a2)) (av := [.inl v182, .inl v183]) (st := [.inl v181]) (mc := 0) (ms := 0) (pc' := 1282) d_L_law_1279 rfl (sd_M_jarsFor (some a2) v182 v183) m_lv rfl cv_M_jarsFor w_ml_L_162 rfl rfl (by decide) (Nat.le_of_ble_eq_true rfl) rfl rfl (fun v184 => ?_)
      refine sm_icmp_eq (tgt := 1841) (pc' := 1285) d_L_law_1282 rfl rfl ?_ ?_
      · refine sm_iinc (j := 0) (L' := [(3, .inl (t3 + 6)), (0, .inr (.inr (some (0, b, 2)))), (1, .inr (.inr (some a1))), (2, .inr (.inr (some a2)))]) (pc' := 1844) d_L_law_1841 rfl (v := (t3 + 6)) rfl (ix_6 _) (Nat.le_of_ble_eq_true rfl) rfl (sm_goto (tgt := 18) d_L_law_1844 rfl (sm_sub [0, 1, 2, 3] rfl ?_))
        exact sm_rt rfl
      · refine sm_iconst (pc' := 1286) d_L_law_1285 rfl ic_0 ?_
        exact sm_zreturn d_L_law_1286 rfl (by decide) rfl
    refine sm_ite (fun hs33_34 => ?_) (fun hs33_34 => ?_)
    · refine sm_tabIn (off := 1254) (tgt := 1287) d_L_law_33 (by rw [hs33_34]; decide) (by rw [hs33_34]; decide) (by rw [hs33_34]; rfl) rfl ?_
      refine sm_wid (mc' := 0) (ms' := 0) (by decide) (by decide) ?_
      refine sm_aload_n (i := 1) (j := 2) (pc' := 1288) d_L_law_1287 rfl rfl rfl (sm_aload_n (i := 0) (j := 1) (pc' := 1289) d_L_law_1288 rfl rfl rfl (sm_iload_n (i := 3) (j := 0) (pc' := 1290) d_L_law_1289 rfl rfl rfl (sm_iconst (pc' := 1291) d_L_law_1290 rfl ic_1 (sm_iadd (pc' := 1292) d_L_law_1291 rfl ?_))))
      refine sm_xld (pc' := 1293) d_L_law_1292 rfl (fun v185 => ?_)
      refine sm_aload_n (i := 0) (j := 1) (pc' := 1294) d_L_law_1293 rfl rfl rfl (sm_iload_n (i := 3) (j := 0) (pc' := 1295) d_L_law_1294 rfl rfl rfl (sm_iconst (pc' := 1296) d_L_law_1295 rfl ic_2 (sm_iadd (pc' := 1297) d_L_law_1296 rfl ?_)))
      refine sm_xld (pc' := 1298) d_L_law_1297 rfl (fun v186 => ?_)
      refine sm_aload_n (i := 0) (j := 1) (pc' := 1299) d_L_law_1298 rfl rfl rfl (sm_iload_n (i := 3) (j := 0) (pc' := 1300) d_L_law_1299 rfl rfl rfl (sm_iconst (pc' := 1301) d_L_law_1300 rfl ic_3 (sm_iadd (pc' := 1302) d_L_law_1301 rfl ?_)))
      refine sm_xld (pc' := 1303) d_L_law_1302 rfl (fun v187 => ?_)
      refine sm_callVi (ci := 0) (x := (some a1)) (av := [.inl v185, .inl v186, .inl v187]) (st := []) (mc := 0) (ms := 0) (pc' := 1306) d_L_law_1303 rfl (sd_C_less (some a1) v185 v186 v187) m_lv rfl cv_C_less w_ml_L_163 rfl rfl (by decide) (Nat.le_of_ble_eq_true rfl) rfl rfl (fun v188 => ?_)
      refine sm_aload_n (i := 2) (j := 3) (pc' := 1307) d_L_law_1306 rfl rfl rfl (sm_aload_n (i := 0) (j := 1) (pc' := 1308) d_L_law_1307 rfl rfl rfl (sm_iload_n (i := 3) (j := 0) (pc' := 1309) d_L_law_1308 rfl rfl rfl (sm_iconst (pc' := 1310) d_L_law_1309 rfl ic_1 (sm_iadd (pc' := 1311) d_L_law_1310 rfl ?_))))
      refine sm_xld (pc' := 1312) d_L_law_1311 rfl (fun v189 => ?_)
      refine sm_aload_n (i := 0) (j := 1) (pc' := 1313) d_L_law_1312 rfl rfl rfl (sm_iload_n (i := 3) (j := 0) (pc' := 1314) d_L_law_1313 rfl rfl rfl (sm_iconst (pc' := 1315) d_L_law_1314 rfl ic_2 (sm_iadd (pc' := 1316) d_L_law_1315 rfl ?_)))
      refine sm_xld (pc' := 1317) d_L_law_1316 rfl (fun v190 => ?_)
      refine sm_aload_n (i := 0) (j := 1) (pc' := 1318) d_L_law_1317 rfl rfl rfl (sm_iload_n (i := 3) (j := 0) (pc' := 1319) d_L_law_1318 rfl rfl rfl (sm_iconst (pc' := 1320) d_L_law_1319 rfl ic_3 (sm_iadd (pc' := 1321) d_L_law_1320 rfl ?_)))
      refine sm_xld (pc' := 1322) d_L_law_1321 rfl (fun v191 => ?_)
      refine sm_callVi (ci := 11) (x := (some a2)) (av := [.inl v189, .inl v190, .inl v191]) (st := [.inl v188]) (mc := 0) (ms := 0) (pc' := 1325) d_L_law_1322 rfl (sd_M_less (some a2) v189 v190 v191) m_lv rfl cv_M_less w_ml_L_166 rfl rfl (by decide) (Nat.le_of_ble_eq_true rfl) rfl rfl (fun v192 => ?_)
      refine sm_icmp_eq (tgt := 1841) (pc' := 1328) d_L_law_1325 rfl rfl ?_ ?_
      · refine sm_iinc (j := 0) (L' := [(3, .inl (t3 + 6)), (0, .inr (.inr (some (0, b, 2)))), (1, .inr (.inr (some a1))), (2, .inr (.inr (some a2)))]) (pc' := 1844) d_L_law_1841 rfl (v := (t3 + 6)) rfl (ix_6 _) (Nat.le_of_ble_eq_true rfl) rfl (sm_goto (tgt := 18) d_L_law_1844 rfl (sm_sub [0, 1, 2, 3] rfl ?_))
        exact sm_rt rfl
      · refine sm_iconst (pc' := 1329) d_L_law_1328 rfl ic_0 ?_
        exact sm_zreturn d_L_law_1329 rfl (by decide) rfl
    refine sm_ite (fun hs33_35 => ?_) (fun hs33_35 => ?_)
    · refine sm_tabIn (off := 1297) (tgt := 1330) d_L_law_33 (by rw [hs33_35]; decide) (by rw [hs33_35]; decide) (by rw [hs33_35]; rfl) rfl ?_
      refine sm_wid (mc' := 0) (ms' := 0) (by decide) (by decide) ?_
      refine sm_aload_n (i := 1) (j := 2) (pc' := 1331) d_L_law_1330 rfl rfl rfl (sm_aload_n (i := 0) (j := 1) (pc' := 1332) d_L_law_1331 rfl rfl rfl (sm_iload_n (i := 3) (j := 0) (pc' := 1333) d_L_law_1332 rfl rfl rfl (sm_iconst (pc' := 1334) d_L_law_1333 rfl ic_1 (sm_iadd (pc' := 1335) d_L_law_1334 rfl ?_))))
      refine sm_xld (pc' := 1336) d_L_law_1335 rfl (fun v193 => ?_)
      refine sm_aload_n (i := 0) (j := 1) (pc' := 1337) d_L_law_1336 rfl rfl rfl (sm_iload_n (i := 3) (j := 0) (pc' := 1338) d_L_law_1337 rfl rfl rfl (sm_iconst (pc' := 1339) d_L_law_1338 rfl ic_2 (sm_iadd (pc' := 1340) d_L_law_1339 rfl ?_)))
      refine sm_xld (pc' := 1341) d_L_law_1340 rfl (fun v194 => ?_)
      refine sm_callVi (ci := 0) (x := (some a1)) (av := [.inl v193, .inl v194]) (st := []) (mc := 0) (ms := 0) (pc' := 1344) d_L_law_1341 rfl (sd_C_seen (some a1) v193 v194) m_lv rfl cv_C_seen w_ml_L_167 rfl rfl (by decide) (Nat.le_of_ble_eq_true rfl) rfl rfl (fun v195 => ?_)
      refine sm_aload_n (i := 2) (j := 3) (pc' := 1345) d_L_law_1344 rfl rfl rfl (sm_aload_n (i := 0) (j := 1) (pc' := 1346) d_L_law_1345 rfl rfl rfl (sm_iload_n (i := 3) (j := 0) (pc' := 1347) d_L_law_1346 rfl rfl rfl (sm_iconst (pc' := 1348) d_L_law_1347 rfl ic_1 (sm_iadd (pc' := 1349) d_L_law_1348 rfl ?_))))
      refine sm_xld (pc' := 1350) d_L_law_1349 rfl (fun v196 => ?_)
      refine sm_aload_n (i := 0) (j := 1) (pc' := 1351) d_L_law_1350 rfl rfl rfl (sm_iload_n (i := 3) (j := 0) (pc' := 1352) d_L_law_1351 rfl rfl rfl (sm_iconst (pc' := 1353) d_L_law_1352 rfl ic_2 (sm_iadd (pc' := 1354) d_L_law_1353 rfl ?_)))
      refine sm_xld (pc' := 1355) d_L_law_1354 rfl (fun v197 => ?_)
      refine sm_callVi (ci := 11) (x := (some a2)) (av := [.inl v196, .inl v197]) (st := [.inl v195]) (mc := 0) (ms := 0) (pc' := 1358) d_L_law_1355 rfl (sd_M_seen (some a2) v196 v197) m_lv rfl cv_M_seen w_ml_L_170 rfl rfl (by decide) (Nat.le_of_ble_eq_true rfl) rfl rfl (fun v198 => ?_)
      refine sm_icmp_eq (tgt := 1841) (pc' := 1361) d_L_law_1358 rfl rfl ?_ ?_
      · refine sm_iinc (j := 0) (L' := [(3, .inl (t3 + 6)), (0, .inr (.inr (some (0, b, 2)))), (1, .inr (.inr (some a1))), (2, .inr (.inr (some a2)))]) (pc' := 1844) d_L_law_1841 rfl (v := (t3 + 6)) rfl (ix_6 _) (Nat.le_of_ble_eq_true rfl) rfl (sm_goto (tgt := 18) d_L_law_1844 rfl (sm_sub [0, 1, 2, 3] rfl ?_))
        exact sm_rt rfl
      · refine sm_iconst (pc' := 1362) d_L_law_1361 rfl ic_0 ?_
        exact sm_zreturn d_L_law_1362 rfl (by decide) rfl
    refine sm_ite (fun hs33_36 => ?_) (fun hs33_36 => ?_)
    · refine sm_tabIn (off := 1330) (tgt := 1363) d_L_law_33 (by rw [hs33_36]; decide) (by rw [hs33_36]; decide) (by rw [hs33_36]; rfl) rfl ?_
      refine sm_wid (mc' := 0) (ms' := 0) (by decide) (by decide) ?_
      refine sm_aload_n (i := 1) (j := 2) (pc' := 1364) d_L_law_1363 rfl rfl rfl (sm_aload_n (i := 0) (j := 1) (pc' := 1365) d_L_law_1364 rfl rfl rfl (sm_iload_n (i := 3) (j := 0) (pc' := 1366) d_L_law_1365 rfl rfl rfl (sm_iconst (pc' := 1367) d_L_law_1366 rfl ic_1 (sm_iadd (pc' := 1368) d_L_law_1367 rfl ?_))))
      refine sm_xld (pc' := 1369) d_L_law_1368 rfl (fun v199 => ?_)
      refine sm_aload_n (i := 0) (j := 1) (pc' := 1370) d_L_law_1369 rfl rfl rfl (sm_iload_n (i := 3) (j := 0) (pc' := 1371) d_L_law_1370 rfl rfl rfl (sm_iconst (pc' := 1372) d_L_law_1371 rfl ic_2 (sm_iadd (pc' := 1373) d_L_law_1372 rfl ?_)))
      refine sm_xld (pc' := 1374) d_L_law_1373 rfl (fun v200 => ?_)
      refine sm_aload_n (i := 0) (j := 1) (pc' := 1375) d_L_law_1374 rfl rfl rfl (sm_iload_n (i := 3) (j := 0) (pc' := 1376) d_L_law_1375 rfl rfl rfl (sm_iconst (pc' := 1377) d_L_law_1376 rfl ic_3 (sm_iadd (pc' := 1378) d_L_law_1377 rfl ?_)))
      refine sm_xld (pc' := 1379) d_L_law_1378 rfl (fun v201 => ?_)
      refine sm_callVi (ci := 0) (x := (some a1)) (av := [.inl v199, .inl v200, .inl v201]) (st := []) (mc := 0) (ms := 0) (pc' := 1382) d_L_law_1379 rfl (sd_C_sure (some a1) v199 v200 v201) m_lv rfl cv_C_sure w_ml_L_171 rfl rfl (by decide) (Nat.le_of_ble_eq_true rfl) rfl rfl (fun v202 => ?_)
      refine sm_aload_n (i := 2) (j := 3) (pc' := 1383) d_L_law_1382 rfl rfl rfl (sm_aload_n (i := 0) (j := 1) (pc' := 1384) d_L_law_1383 rfl rfl rfl (sm_iload_n (i := 3) (j := 0) (pc' := 1385) d_L_law_1384 rfl rfl rfl (sm_iconst (pc' := 1386) d_L_law_1385 rfl ic_1 (sm_iadd (pc' := 1387) d_L_law_1386 rfl ?_))))
      refine sm_xld (pc' := 1388) d_L_law_1387 rfl (fun v203 => ?_)
      refine sm_aload_n (i := 0) (j := 1) (pc' := 1389) d_L_law_1388 rfl rfl rfl (sm_iload_n (i := 3) (j := 0) (pc' := 1390) d_L_law_1389 rfl rfl rfl (sm_iconst (pc' := 1391) d_L_law_1390 rfl ic_2 (sm_iadd (pc' := 1392) d_L_law_1391 rfl ?_)))
      refine sm_xld (pc' := 1393) d_L_law_1392 rfl (fun v204 => ?_)
      refine sm_aload_n (i := 0) (j := 1) (pc' := 1394) d_L_law_1393 rfl rfl rfl (sm_iload_n (i := 3) (j := 0) (pc' := 1395) d_L_law_1394 rfl rfl rfl (sm_iconst (pc' := 1396) d_L_law_1395 rfl ic_3 (sm_iadd (pc' := 1397) d_L_law_1396 rfl ?_)))
      refine sm_xld (pc' := 1398) d_L_law_1397 rfl (fun v205 => ?_)
      refine sm_callVi (ci := 11) (x := (some a2)) (av := [.inl v203, .inl v204, .inl v205]) (st := [.inl v202]) (mc := 0) (ms := 0) (pc' := 1401) d_L_law_1398 rfl (sd_M_sure (some a2) v203 v204 v205) m_lv rfl cv_M_sure w_ml_L_174 rfl rfl (by decide) (Nat.le_of_ble_eq_true rfl) rfl rfl (fun v206 => ?_)
      refine sm_icmp_eq (tgt := 1841) (pc' := 1404) d_L_law_1401 rfl rfl ?_ ?_
      · refine sm_iinc (j := 0) (L' := [(3, .inl (t3 + 6)), (0, .inr (.inr (some (0, b, 2)))), (1, .inr (.inr (some a1))), (2, .inr (.inr (some a2)))]) (pc' := 1844) d_L_law_1841 rfl (v := (t3 + 6)) rfl (ix_6 _) (Nat.le_of_ble_eq_true rfl) rfl (sm_goto (tgt := 18) d_L_law_1844 rfl (sm_sub [0, 1, 2, 3] rfl ?_))
        exact sm_rt rfl
      · refine sm_iconst (pc' := 1405) d_L_law_1404 rfl ic_0 ?_
        exact sm_zreturn d_L_law_1405 rfl (by decide) rfl
    refine sm_ite (fun hs33_37 => ?_) (fun hs33_37 => ?_)
    · refine sm_tabIn (off := 1373) (tgt := 1406) d_L_law_33 (by rw [hs33_37]; decide) (by rw [hs33_37]; decide) (by rw [hs33_37]; rfl) rfl ?_
      refine sm_wid (mc' := 0) (ms' := 0) (by decide) (by decide) ?_
      refine sm_aload_n (i := 1) (j := 2) (pc' := 1407) d_L_law_1406 rfl rfl rfl (sm_aload_n (i := 0) (j := 1) (pc' := 1408) d_L_law_1407 rfl rfl rfl (sm_iload_n (i := 3) (j := 0) (pc' := 1409) d_L_law_1408 rfl rfl rfl (sm_iconst (pc' := 1410) d_L_law_1409 rfl ic_1 (sm_iadd (pc' := 1411) d_L_law_1410 rfl ?_))))
      refine sm_xld (pc' := 1412) d_L_law_1411 rfl (fun v207 => ?_)
      refine sm_aload_n (i := 0) (j := 1) (pc' := 1413) d_L_law_1412 rfl rfl rfl (sm_iload_n (i := 3) (j := 0) (pc' := 1414) d_L_law_1413 rfl rfl rfl (sm_iconst (pc' := 1415) d_L_law_1414 rfl ic_2 (sm_iadd (pc' := 1416) d_L_law_1415 rfl ?_)))
      refine sm_xld (pc' := 1417) d_L_law_1416 rfl (fun v208 => ?_)
      refine sm_callVi (ci := 0) (x := (some a1)) (av := [.inl v207, .inl v208]) (st := []) (mc := 0) (ms := 0) (pc' := 1420) d_L_law_1417 rfl (sd_C_ask (some a1) v207 v208) m_lv rfl cv_C_ask w_ml_L_175 rfl rfl (by decide) (Nat.le_of_ble_eq_true rfl) rfl rfl (fun v209 => ?_)
      refine sm_aload_n (i := 2) (j := 3) (pc' := 1421) d_L_law_1420 rfl rfl rfl (sm_aload_n (i := 0) (j := 1) (pc' := 1422) d_L_law_1421 rfl rfl rfl (sm_iload_n (i := 3) (j := 0) (pc' := 1423) d_L_law_1422 rfl rfl rfl (sm_iconst (pc' := 1424) d_L_law_1423 rfl ic_1 (sm_iadd (pc' := 1425) d_L_law_1424 rfl ?_))))
      refine sm_xld (pc' := 1426) d_L_law_1425 rfl (fun v210 => ?_)
      refine sm_aload_n (i := 0) (j := 1) (pc' := 1427) d_L_law_1426 rfl rfl rfl (sm_iload_n (i := 3) (j := 0) (pc' := 1428) d_L_law_1427 rfl rfl rfl (sm_iconst (pc' := 1429) d_L_law_1428 rfl ic_2 (sm_iadd (pc' := 1430) d_L_law_1429 rfl ?_)))
      refine sm_xld (pc' := 1431) d_L_law_1430 rfl (fun v211 => ?_)
      refine sm_callVi (ci := 11) (x := (some a2)) (av := [.inl v210, .inl v211]) (st := [.inl v209]) (mc := 0) (ms := 0) (pc' := 1434) d_L_law_1431 rfl (sd_M_ask (some a2) v210 v211) m_lv rfl cv_M_ask w_ml_L_178 rfl rfl (by decide) (Nat.le_of_ble_eq_true rfl) rfl rfl (fun v212 => ?_)
      refine sm_icmp_eq (tgt := 1841) (pc' := 1437) d_L_law_1434 rfl rfl ?_ ?_
      · refine sm_iinc (j := 0) (L' := [(3, .inl (t3 + 6)), (0, .inr (.inr (some (0, b, 2)))), (1, .inr (.inr (some a1))), (2, .inr (.inr (some a2)))]) (pc' := 1844) d_L_law_1841 rfl (v := (t3 + 6)) rfl (ix_6 _) (Nat.le_of_ble_eq_true rfl) rfl (sm_goto (tgt := 18) d_L_law_1844 rfl (sm_sub [0, 1, 2, 3] rfl ?_))
        exact sm_rt rfl
      · refine sm_iconst (pc' := 1438) d_L_law_1437 rfl ic_0 ?_
        exact sm_zreturn d_L_law_1438 rfl (by decide) rfl
    refine sm_ite (fun hs33_38 => ?_) (fun hs33_38 => ?_)
    · refine sm_tabIn (off := 1406) (tgt := 1439) d_L_law_33 (by rw [hs33_38]; decide) (by rw [hs33_38]; decide) (by rw [hs33_38]; rfl) rfl ?_
      refine sm_wid (mc' := 0) (ms' := 0) (by decide) (by decide) ?_
      refine sm_aload_n (i := 1) (j := 2) (pc' := 1440) d_L_law_1439 rfl rfl rfl (sm_aload_n (i := 0) (j := 1) (pc' := 1441) d_L_law_1440 rfl rfl rfl (sm_iload_n (i := 3) (j := 0) (pc' := 1442) d_L_law_1441 rfl rfl rfl (sm_iconst (pc' := 1443) d_L_law_1442 rfl ic_1 (sm_iadd (pc' := 1444) d_L_law_1443 rfl ?_))))
      refine sm_xld (pc' := 1445) d_L_law_1444 rfl (fun v213 => ?_)
      refine sm_callVi (ci := 0) (x := (some a1)) (av := [.inl v213]) (st := []) (mc := 0) (ms := 0) (pc' := 1448) d_L_law_1445 rfl (sd_C_keeping (some a1) v213) m_lv rfl cv_C_keeping w_ml_L_179 rfl rfl (by decide) (Nat.le_of_ble_eq_true rfl) rfl rfl (fun v214 => ?_)
      refine sm_aload_n (i := 2) (j := 3) (pc' := 1449) d_L_law_1448 rfl rfl rfl (sm_aload_n (i := 0) (j := 1) (pc' := 1450) d_L_law_1449 rfl rfl rfl (sm_iload_n (i := 3) (j := 0) (pc' := 1451) d_L_law_1450 rfl rfl rfl (sm_iconst (pc' := 1452) d_L_law_1451 rfl ic_1 (sm_iadd (pc' := 1453) d_L_law_1452 rfl ?_))))
      refine sm_xld (pc' := 1454) d_L_law_1453 rfl (fun v215 => ?_)
      refine sm_callVi (ci := 11) (x := (some a2)) (av := [.inl v215]) (st := [.inl v214]) (mc := 0) (ms := 0) (pc' := 1457) d_L_law_1454 rfl (sd_M_keeping (some a2) v215) m_lv rfl cv_M_keeping w_ml_L_182 rfl rfl (by decide) (Nat.le_of_ble_eq_true rfl) rfl rfl (fun v216 => ?_)
      refine sm_icmp_eq (tgt := 1841) (pc' := 1460) d_L_law_1457 rfl rfl ?_ ?_
      · refine sm_iinc (j := 0) (L' := [(3, .inl (t3 + 6)), (0, .inr (.inr (some (0, b, 2)))), (1, .inr (.inr (some a1))), (2, .inr (.inr (some a2)))]) (pc' := 1844) d_L_law_1841 rfl (v := (t3 + 6)) rfl (ix_6 _) (Nat.le_of_ble_eq_true rfl) rfl (sm_goto (tgt := 18) d_L_law_1844 rfl (sm_sub [0, 1, 2, 3] rfl ?_))
        exact sm_rt rfl
      · refine sm_iconst (pc' := 1461) d_L_law_1460 rfl ic_0 ?_
        exact sm_zreturn d_L_law_1461 rfl (by decide) rfl
    refine sm_ite (fun hs33_39 => ?_) (fun hs33_39 => ?_)
    · refine sm_tabIn (off := 1429) (tgt := 1462) d_L_law_33 (by rw [hs33_39]; decide) (by rw [hs33_39]; decide) (by rw [hs33_39]; rfl) rfl ?_
      refine sm_wid (mc' := 0) (ms' := 0) (by decide) (by decide) ?_
      refine sm_aload_n (i := 1) (j := 2) (pc' := 1463) d_L_law_1462 rfl rfl rfl (sm_aload_n (i := 0) (j := 1) (pc' := 1464) d_L_law_1463 rfl rfl rfl (sm_iload_n (i := 3) (j := 0) (pc' := 1465) d_L_law_1464 rfl rfl rfl (sm_iconst (pc' := 1466) d_L_law_1465 rfl ic_1 (sm_iadd (pc' := 1467) d_L_law_1466 rfl ?_))))
      refine sm_xld (pc' := 1468) d_L_law_1467 rfl (fun v217 => ?_)
      refine sm_aload_n (i := 0) (j := 1) (pc' := 1469) d_L_law_1468 rfl rfl rfl (sm_iload_n (i := 3) (j := 0) (pc' := 1470) d_L_law_1469 rfl rfl rfl (sm_iconst (pc' := 1471) d_L_law_1470 rfl ic_2 (sm_iadd (pc' := 1472) d_L_law_1471 rfl ?_)))
      refine sm_xld (pc' := 1473) d_L_law_1472 rfl (fun v218 => ?_)
      refine sm_callVi (ci := 0) (x := (some a1)) (av := [.inl v217, .inl v218]) (st := []) (mc := 0) (ms := 0) (pc' := 1476) d_L_law_1473 rfl (sd_C_keeps (some a1) v217 v218) m_lv rfl cv_C_keeps w_ml_L_183 rfl rfl (by decide) (Nat.le_of_ble_eq_true rfl) rfl rfl (fun v219 => ?_)
      refine sm_aload_n (i := 2) (j := 3) (pc' := 1477) d_L_law_1476 rfl rfl rfl (sm_aload_n (i := 0) (j := 1) (pc' := 1478) d_L_law_1477 rfl rfl rfl (sm_iload_n (i := 3) (j := 0) (pc' := 1479) d_L_law_1478 rfl rfl rfl (sm_iconst (pc' := 1480) d_L_law_1479 rfl ic_1 (sm_iadd (pc' := 1481) d_L_law_1480 rfl ?_))))
      refine sm_xld (pc' := 1482) d_L_law_1481 rfl (fun v220 => ?_)
      refine sm_aload_n (i := 0) (j := 1) (pc' := 1483) d_L_law_1482 rfl rfl rfl (sm_iload_n (i := 3) (j := 0) (pc' := 1484) d_L_law_1483 rfl rfl rfl (sm_iconst (pc' := 1485) d_L_law_1484 rfl ic_2 (sm_iadd (pc' := 1486) d_L_law_1485 rfl ?_)))
      refine sm_xld (pc' := 1487) d_L_law_1486 rfl (fun v221 => ?_)
      refine sm_callVi (ci := 11) (x := (some a2)) (av := [.inl v220, .inl v221]) (st := [.inl v219]) (mc := 0) (ms := 0) (pc' := 1490) d_L_law_1487 rfl (sd_M_keeps (some a2) v220 v221) m_lv rfl cv_M_keeps w_ml_L_186 rfl rfl (by decide) (Nat.le_of_ble_eq_true rfl) rfl rfl (fun v222 => ?_)
      refine sm_icmp_eq (tgt := 1841) (pc' := 1493) d_L_law_1490 rfl rfl ?_ ?_
      · refine sm_iinc (j := 0) (L' := [(3, .inl (t3 + 6)), (0, .inr (.inr (some (0, b, 2)))), (1, .inr (.inr (some a1))), (2, .inr (.inr (some a2)))]) (pc' := 1844) d_L_law_1841 rfl (v := (t3 + 6)) rfl (ix_6 _) (Nat.le_of_ble_eq_true rfl) rfl (sm_goto (tgt := 18) d_L_law_1844 rfl (sm_sub [0, 1, 2, 3] rfl ?_))
        exact sm_rt rfl
      · refine sm_iconst (pc' := 1494) d_L_law_1493 rfl ic_0 ?_
        exact sm_zreturn d_L_law_1494 rfl (by decide) rfl
    refine sm_ite (fun hs33_40 => ?_) (fun hs33_40 => ?_)
    · refine sm_tabIn (off := 1462) (tgt := 1495) d_L_law_33 (by rw [hs33_40]; decide) (by rw [hs33_40]; decide) (by rw [hs33_40]; rfl) rfl ?_
      refine sm_wid (mc' := 0) (ms' := 0) (by decide) (by decide) ?_
      refine sm_aload_n (i := 1) (j := 2) (pc' := 1496) d_L_law_1495 rfl rfl rfl (sm_aload_n (i := 0) (j := 1) (pc' := 1497) d_L_law_1496 rfl rfl rfl (sm_iload_n (i := 3) (j := 0) (pc' := 1498) d_L_law_1497 rfl rfl rfl (sm_iconst (pc' := 1499) d_L_law_1498 rfl ic_1 (sm_iadd (pc' := 1500) d_L_law_1499 rfl ?_))))
      refine sm_xld (pc' := 1501) d_L_law_1500 rfl (fun v223 => ?_)
      refine sm_aload_n (i := 0) (j := 1) (pc' := 1502) d_L_law_1501 rfl rfl rfl (sm_iload_n (i := 3) (j := 0) (pc' := 1503) d_L_law_1502 rfl rfl rfl (sm_iconst (pc' := 1504) d_L_law_1503 rfl ic_2 (sm_iadd (pc' := 1505) d_L_law_1504 rfl ?_)))
      refine sm_xld (pc' := 1506) d_L_law_1505 rfl (fun v224 => ?_)
      refine sm_callVi (ci := 0) (x := (some a1)) (av := [.inl v223, .inl v224]) (st := []) (mc := 0) (ms := 0) (pc' := 1509) d_L_law_1506 rfl (sd_C_stable (some a1) v223 v224) m_lv rfl cv_C_stable w_ml_L_187 rfl rfl (by decide) (Nat.le_of_ble_eq_true rfl) rfl rfl (fun v225 => ?_)
      refine sm_aload_n (i := 2) (j := 3) (pc' := 1510) d_L_law_1509 rfl rfl rfl (sm_aload_n (i := 0) (j := 1) (pc' := 1511) d_L_law_1510 rfl rfl rfl (sm_iload_n (i := 3) (j := 0) (pc' := 1512) d_L_law_1511 rfl rfl rfl (sm_iconst (pc' := 1513) d_L_law_1512 rfl ic_1 (sm_iadd (pc' := 1514) d_L_law_1513 rfl ?_))))
      refine sm_xld (pc' := 1515) d_L_law_1514 rfl (fun v226 => ?_)
      refine sm_aload_n (i := 0) (j := 1) (pc' := 1516) d_L_law_1515 rfl rfl rfl (sm_iload_n (i := 3) (j := 0) (pc' := 1517) d_L_law_1516 rfl rfl rfl (sm_iconst (pc' := 1518) d_L_law_1517 rfl ic_2 (sm_iadd (pc' := 1519) d_L_law_1518 rfl ?_)))
      refine sm_xld (pc' := 1520) d_L_law_1519 rfl (fun v227 => ?_)
      refine sm_callVi (ci := 11) (x := (some a2)) (av := [.inl v226, .inl v227]) (st := [.inl v225]) (mc := 0) (ms := 0) (pc' := 1523) d_L_law_1520 rfl (sd_M_stable (some a2) v226 v227) m_lv rfl cv_M_stable w_ml_L_190 rfl rfl (by decide) (Nat.le_of_ble_eq_true rfl) rfl rfl (fun v228 => ?_)
      refine sm_icmp_eq (tgt := 1841) (pc' := 1526) d_L_law_1523 rfl rfl ?_ ?_
      · refine sm_iinc (j := 0) (L' := [(3, .inl (t3 + 6)), (0, .inr (.inr (some (0, b, 2)))), (1, .inr (.inr (some a1))), (2, .inr (.inr (some a2)))]) (pc' := 1844) d_L_law_1841 rfl (v := (t3 + 6)) rfl (ix_6 _) (Nat.le_of_ble_eq_true rfl) rfl (sm_goto (tgt := 18) d_L_law_1844 rfl (sm_sub [0, 1, 2, 3] rfl ?_))
        exact sm_rt rfl
      · refine sm_iconst (pc' := 1527) d_L_law_1526 rfl ic_0 ?_
        exact sm_zreturn d_L_law_1527 rfl (by decide) rfl
    refine sm_ite (fun hs33_41 => ?_) (fun hs33_41 => ?_)
    · refine sm_tabIn (off := 1495) (tgt := 1528) d_L_law_33 (by rw [hs33_41]; decide) (by rw [hs33_41]; decide) (by rw [hs33_41]; rfl) rfl ?_
      refine sm_wid (mc' := 0) (ms' := 0) (by decide) (by decide) ?_
      refine sm_aload_n (i := 1) (j := 2) (pc' := 1529) d_L_law_1528 rfl rfl rfl (sm_aload_n (i := 0) (j := 1) (pc' := 1530) d_L_law_1529 rfl rfl rfl (sm_iload_n (i := 3) (j := 0) (pc' := 1531) d_L_law_1530 rfl rfl rfl (sm_iconst (pc' := 1532) d_L_law_1531 rfl ic_1 (sm_iadd (pc' := 1533) d_L_law_1532 rfl ?_))))
      refine sm_xld (pc' := 1534) d_L_law_1533 rfl (fun v229 => ?_)
      refine sm_callVi (ci := 0) (x := (some a1)) (av := [.inl v229]) (st := []) (mc := 0) (ms := 0) (pc' := 1537) d_L_law_1534 rfl (sd_C_stables (some a1) v229) m_lv rfl cv_C_stables w_ml_L_191 rfl rfl (by decide) (Nat.le_of_ble_eq_true rfl) rfl rfl (fun v230 => ?_)
      refine sm_aload_n (i := 2) (j := 3) (pc' := 1538) d_L_law_1537 rfl rfl rfl (sm_aload_n (i := 0) (j := 1) (pc' := 1539) d_L_law_1538 rfl rfl rfl (sm_iload_n (i := 3) (j := 0) (pc' := 1540) d_L_law_1539 rfl rfl rfl (sm_iconst (pc' := 1541) d_L_law_1540 rfl ic_1 (sm_iadd (pc' := 1542) d_L_law_1541 rfl ?_))))
      refine sm_xld (pc' := 1543) d_L_law_1542 rfl (fun v231 => ?_)
      refine sm_callVi (ci := 11) (x := (some a2)) (av := [.inl v231]) (st := [.inl v230]) (mc := 0) (ms := 0) (pc' := 1546) d_L_law_1543 rfl (sd_M_stables (some a2) v231) m_lv rfl cv_M_stables w_ml_L_194 rfl rfl (by decide) (Nat.le_of_ble_eq_true rfl) rfl rfl (fun v232 => ?_)
      refine sm_icmp_eq (tgt := 1841) (pc' := 1549) d_L_law_1546 rfl rfl ?_ ?_
      · refine sm_iinc (j := 0) (L' := [(3, .inl (t3 + 6)), (0, .inr (.inr (some (0, b, 2)))), (1, .inr (.inr (some a1))), (2, .inr (.inr (some a2)))]) (pc' := 1844) d_L_law_1841 rfl (v := (t3 + 6)) rfl (ix_6 _) (Nat.le_of_ble_eq_true rfl) rfl (sm_goto (tgt := 18) d_L_law_1844 rfl (sm_sub [0, 1, 2, 3] rfl ?_))
        exact sm_rt rfl
      · refine sm_iconst (pc' := 1550) d_L_law_1549 rfl ic_0 ?_
        exact sm_zreturn d_L_law_1550 rfl (by decide) rfl
    refine sm_ite (fun hs33_42 => ?_) (fun hs33_42 => ?_)
    · refine sm_tabIn (off := 1518) (tgt := 1551) d_L_law_33 (by rw [hs33_42]; decide) (by rw [hs33_42]; decide) (by rw [hs33_42]; rfl) rfl ?_
      refine sm_wid (mc' := 0) (ms' := 0) (by decide) (by decide) ?_
      refine sm_aload_n (i := 1) (j := 2) (pc' := 1552) d_L_law_1551 rfl rfl rfl (sm_aload_n (i := 0) (j := 1) (pc' := 1553) d_L_law_1552 rfl rfl rfl (sm_iload_n (i := 3) (j := 0) (pc' := 1554) d_L_law_1553 rfl rfl rfl (sm_iconst (pc' := 1555) d_L_law_1554 rfl ic_1 (sm_iadd (pc' := 1556) d_L_law_1555 rfl ?_))))
      refine sm_xld (pc' := 1557) d_L_law_1556 rfl (fun v233 => ?_)
      refine sm_aload_n (i := 0) (j := 1) (pc' := 1558) d_L_law_1557 rfl rfl rfl (sm_iload_n (i := 3) (j := 0) (pc' := 1559) d_L_law_1558 rfl rfl rfl (sm_iconst (pc' := 1560) d_L_law_1559 rfl ic_2 (sm_iadd (pc' := 1561) d_L_law_1560 rfl ?_)))
      refine sm_xld (pc' := 1562) d_L_law_1561 rfl (fun v234 => ?_)
      refine sm_aload_n (i := 0) (j := 1) (pc' := 1563) d_L_law_1562 rfl rfl rfl (sm_iload_n (i := 3) (j := 0) (pc' := 1564) d_L_law_1563 rfl rfl rfl (sm_iconst (pc' := 1565) d_L_law_1564 rfl ic_3 (sm_iadd (pc' := 1566) d_L_law_1565 rfl ?_)))
      refine sm_xld (pc' := 1567) d_L_law_1566 rfl (fun v235 => ?_)
      refine sm_callVi (ci := 0) (x := (some a1)) (av := [.inl v233, .inl v234, .inl v235]) (st := []) (mc := 0) (ms := 0) (pc' := 1570) d_L_law_1567 rfl (sd_C_game (some a1) v233 v234 v235) m_lv rfl cv_C_game w_ml_L_195 rfl rfl (by decide) (Nat.le_of_ble_eq_true rfl) rfl rfl (fun v236 => ?_)
      refine sm_aload_n (i := 2) (j := 3) (pc' := 1571) d_L_law_1570 rfl rfl rfl (sm_aload_n (i := 0) (j := 1) (pc' := 1572) d_L_law_1571 rfl rfl rfl (sm_iload_n (i := 3) (j := 0) (pc' := 1573) d_L_law_1572 rfl rfl rfl (sm_iconst (pc' := 1574) d_L_law_1573 rfl ic_1 (sm_iadd (pc' := 1575) d_L_law_1574 rfl ?_))))
      refine sm_xld (pc' := 1576) d_L_law_1575 rfl (fun v237 => ?_)
      refine sm_aload_n (i := 0) (j := 1) (pc' := 1577) d_L_law_1576 rfl rfl rfl (sm_iload_n (i := 3) (j := 0) (pc' := 1578) d_L_law_1577 rfl rfl rfl (sm_iconst (pc' := 1579) d_L_law_1578 rfl ic_2 (sm_iadd (pc' := 1580) d_L_law_1579 rfl ?_)))
      refine sm_xld (pc' := 1581) d_L_law_1580 rfl (fun v238 => ?_)
      refine sm_aload_n (i := 0) (j := 1) (pc' := 1582) d_L_law_1581 rfl rfl rfl (sm_iload_n (i := 3) (j := 0) (pc' := 1583) d_L_law_1582 rfl rfl rfl (sm_iconst (pc' := 1584) d_L_law_1583 rfl ic_3 (sm_iadd (pc' := 1585) d_L_law_1584 rfl ?_)))
      refine sm_xld (pc' := 1586) d_L_law_1585 rfl (fun v239 => ?_)
      refine sm_callVi (ci := 11) (x := (some a2)) (av := [.inl v237, .inl v238, .inl v239]) (st := [.inl v236]) (mc := 0) (ms := 0) (pc' := 1589) d_L_law_1586 rfl (sd_M_game (some a2) v237 v238 v239) m_lv rfl cv_M_game w_ml_L_198 rfl rfl (by decide) (Nat.le_of_ble_eq_true rfl) rfl rfl (fun v240 => ?_)
      refine sm_icmp_eq (tgt := 1841) (pc' := 1592) d_L_law_1589 rfl rfl ?_ ?_
      · refine sm_iinc (j := 0) (L' := [(3, .inl (t3 + 6)), (0, .inr (.inr (some (0, b, 2)))), (1, .inr (.inr (some a1))), (2, .inr (.inr (some a2)))]) (pc' := 1844) d_L_law_1841 rfl (v := (t3 + 6)) rfl (ix_6 _) (Nat.le_of_ble_eq_true rfl) rfl (sm_goto (tgt := 18) d_L_law_1844 rfl (sm_sub [0, 1, 2, 3] rfl ?_))
        exact sm_rt rfl
      · refine sm_iconst (pc' := 1593) d_L_law_1592 rfl ic_0 ?_
        exact sm_zreturn d_L_law_1593 rfl (by decide) rfl
    refine sm_ite (fun hs33_43 => ?_) (fun hs33_43 => ?_)
    · refine sm_tabIn (off := 1561) (tgt := 1594) d_L_law_33 (by rw [hs33_43]; decide) (by rw [hs33_43]; decide) (by rw [hs33_43]; rfl) rfl ?_
      refine sm_wid (mc' := 0) (ms' := 0) (by decide) (by decide) ?_
      refine sm_aload_n (i := 1) (j := 2) (pc' := 1595) d_L_law_1594 rfl rfl rfl (sm_aload_n (i := 0) (j := 1) (pc' := 1596) d_L_law_1595 rfl rfl rfl (sm_iload_n (i := 3) (j := 0) (pc' := 1597) d_L_law_1596 rfl rfl rfl (sm_iconst (pc' := 1598) d_L_law_1597 rfl ic_1 (sm_iadd (pc' := 1599) d_L_law_1598 rfl ?_))))
      refine sm_xld (pc' := 1600) d_L_law_1599 rfl (fun v241 => ?_)
      refine sm_aload_n (i := 0) (j := 1) (pc' := 1601) d_L_law_1600 rfl rfl rfl (sm_iload_n (i := 3) (j := 0) (pc' := 1602) d_L_law_1601 rfl rfl rfl (sm_iconst (pc' := 1603) d_L_law_1602 rfl ic_2 (sm_iadd (pc' := 1604) d_L_law_1603 rfl ?_)))
      refine sm_xld (pc' := 1605) d_L_law_1604 rfl (fun v242 => ?_)
      refine sm_aload_n (i := 0) (j := 1) (pc' := 1606) d_L_law_1605 rfl rfl rfl (sm_iload_n (i := 3) (j := 0) (pc' := 1607) d_L_law_1606 rfl rfl rfl (sm_iconst (pc' := 1608) d_L_law_1607 rfl ic_3 (sm_iadd (pc' := 1609) d_L_law_1608 rfl ?_)))
      refine sm_xld (pc' := 1610) d_L_law_1609 rfl (fun v243 => ?_)
      refine sm_callVi (ci := 0) (x := (some a1)) (av := [.inl v241, .inl v242, .inl v243]) (st := []) (mc := 0) (ms := 0) (pc' := 1613) d_L_law_1610 rfl (sd_C_moveOf (some a1) v241 v242 v243) m_lv rfl cv_C_moveOf w_ml_L_199 rfl rfl (by decide) (Nat.le_of_ble_eq_true rfl) rfl rfl (fun v244 => ?_)
      refine sm_aload_n (i := 2) (j := 3) (pc' := 1614) d_L_law_1613 rfl rfl rfl (sm_aload_n (i := 0) (j := 1) (pc' := 1615) d_L_law_1614 rfl rfl rfl (sm_iload_n (i := 3) (j := 0) (pc' := 1616) d_L_law_1615 rfl rfl rfl (sm_iconst (pc' := 1617) d_L_law_1616 rfl ic_1 (sm_iadd (pc' := 1618) d_L_law_1617 rfl ?_))))
      refine sm_xld (pc' := 1619) d_L_law_1618 rfl (fun v245 => ?_)
      refine sm_aload_n (i := 0) (j := 1) (pc' := 1620) d_L_law_1619 rfl rfl rfl (sm_iload_n (i := 3) (j := 0) (pc' := 1621) d_L_law_1620 rfl rfl rfl (sm_iconst (pc' := 1622) d_L_law_1621 rfl ic_2 (sm_iadd (pc' := 1623) d_L_law_1622 rfl ?_)))
      refine sm_xld (pc' := 1624) d_L_law_1623 rfl (fun v246 => ?_)
      refine sm_aload_n (i := 0) (j := 1) (pc' := 1625) d_L_law_1624 rfl rfl rfl (sm_iload_n (i := 3) (j := 0) (pc' := 1626) d_L_law_1625 rfl rfl rfl (sm_iconst (pc' := 1627) d_L_law_1626 rfl ic_3 (sm_iadd (pc' := 1628) d_L_law_1627 rfl ?_)))
      refine sm_xld (pc' := 1629) d_L_law_1628 rfl (fun v247 => ?_)
      refine sm_callVi (ci := 11) (x := (some a2)) (av := [.inl v245, .inl v246, .inl v247]) (st := [.inl v244]) (mc := 0) (ms := 0) (pc' := 1632) d_L_law_1629 rfl (sd_M_moveOf (some a2) v245 v246 v247) m_lv rfl cv_M_moveOf w_ml_L_202 rfl rfl (by decide) (Nat.le_of_ble_eq_true rfl) rfl rfl (fun v248 => ?_)
      refine sm_icmp_eq (tgt := 1841) (pc' := 1635) d_L_law_1632 rfl rfl ?_ ?_
      · refine sm_iinc (j := 0) (L' := [(3, .inl (t3 + 6)), (0, .inr (.inr (some (0, b, 2)))), (1, .inr (.inr (some a1))), (2, .inr (.inr (some a2)))]) (pc' := 1844) d_L_law_1841 rfl (v := (t3 + 6)) rfl (ix_6 _) (Nat.le_of_ble_eq_true rfl) rfl (sm_goto (tgt := 18) d_L_law_1844 rfl (sm_sub [0, 1, 2, 3] rfl ?_))
        exact sm_rt rfl
      · refine sm_iconst (pc' := 1636) d_L_law_1635 rfl ic_0 ?_
        exact sm_zreturn d_L_law_1636 rfl (by decide) rfl
    refine sm_ite (fun hs33_44 => ?_) (fun hs33_44 => ?_)
    · refine sm_tabIn (off := 1604) (tgt := 1637) d_L_law_33 (by rw [hs33_44]; decide) (by rw [hs33_44]; decide) (by rw [hs33_44]; rfl) rfl ?_
      refine sm_wid (mc' := 0) (ms' := 0) (by decide) (by decide) ?_
      refine sm_aload_n (i := 1) (j := 2) (pc' := 1638) d_L_law_1637 rfl rfl rfl (sm_aload_n (i := 0) (j := 1) (pc' := 1639) d_L_law_1638 rfl rfl rfl (sm_iload_n (i := 3) (j := 0) (pc' := 1640) d_L_law_1639 rfl rfl rfl (sm_iconst (pc' := 1641) d_L_law_1640 rfl ic_1 (sm_iadd (pc' := 1642) d_L_law_1641 rfl ?_))))
      refine sm_xld (pc' := 1643) d_L_law_1642 rfl (fun v249 => ?_)
      refine sm_aload_n (i := 0) (j := 1) (pc' := 1644) d_L_law_1643 rfl rfl rfl (sm_iload_n (i := 3) (j := 0) (pc' := 1645) d_L_law_1644 rfl rfl rfl (sm_iconst (pc' := 1646) d_L_law_1645 rfl ic_2 (sm_iadd (pc' := 1647) d_L_law_1646 rfl ?_)))
      refine sm_xld (pc' := 1648) d_L_law_1647 rfl (fun v250 => ?_)
      refine sm_callVi (ci := 0) (x := (some a1)) (av := [.inl v249, .inl v250]) (st := []) (mc := 0) (ms := 0) (pc' := 1651) d_L_law_1648 rfl (sd_C_lasts (some a1) v249 v250) m_lv rfl cv_C_lasts w_ml_L_203 rfl rfl (by decide) (Nat.le_of_ble_eq_true rfl) rfl rfl (fun v251 => ?_)
      refine sm_aload_n (i := 2) (j := 3) (pc' := 1652) d_L_law_1651 rfl rfl rfl (sm_aload_n (i := 0) (j := 1) (pc' := 1653) d_L_law_1652 rfl rfl rfl (sm_iload_n (i := 3) (j := 0) (pc' := 1654) d_L_law_1653 rfl rfl rfl (sm_iconst (pc' := 1655) d_L_law_1654 rfl ic_1 (sm_iadd (pc' := 1656) d_L_law_1655 rfl ?_))))
      refine sm_xld (pc' := 1657) d_L_law_1656 rfl (fun v252 => ?_)
      refine sm_aload_n (i := 0) (j := 1) (pc' := 1658) d_L_law_1657 rfl rfl rfl (sm_iload_n (i := 3) (j := 0) (pc' := 1659) d_L_law_1658 rfl rfl rfl (sm_iconst (pc' := 1660) d_L_law_1659 rfl ic_2 (sm_iadd (pc' := 1661) d_L_law_1660 rfl ?_)))
      refine sm_xld (pc' := 1662) d_L_law_1661 rfl (fun v253 => ?_)
      refine sm_callVi (ci := 11) (x := (some a2)) (av := [.inl v252, .inl v253]) (st := [.inl v251]) (mc := 0) (ms := 0) (pc' := 1665) d_L_law_1662 rfl (sd_M_lasts (some a2) v252 v253) m_lv rfl cv_M_lasts w_ml_L_206 rfl rfl (by decide) (Nat.le_of_ble_eq_true rfl) rfl rfl (fun v254 => ?_)
      refine sm_icmp_eq (tgt := 1841) (pc' := 1668) d_L_law_1665 rfl rfl ?_ ?_
      · refine sm_iinc (j := 0) (L' := [(3, .inl (t3 + 6)), (0, .inr (.inr (some (0, b, 2)))), (1, .inr (.inr (some a1))), (2, .inr (.inr (some a2)))]) (pc' := 1844) d_L_law_1841 rfl (v := (t3 + 6)) rfl (ix_6 _) (Nat.le_of_ble_eq_true rfl) rfl (sm_goto (tgt := 18) d_L_law_1844 rfl (sm_sub [0, 1, 2, 3] rfl ?_))
        exact sm_rt rfl
      · refine sm_iconst (pc' := 1669) d_L_law_1668 rfl ic_0 ?_
        exact sm_zreturn d_L_law_1669 rfl (by decide) rfl
    refine sm_ite (fun hs33_45 => ?_) (fun hs33_45 => ?_)
    · refine sm_tabIn (off := 1637) (tgt := 1670) d_L_law_33 (by rw [hs33_45]; decide) (by rw [hs33_45]; decide) (by rw [hs33_45]; rfl) rfl ?_
      refine sm_wid (mc' := 0) (ms' := 0) (by decide) (by decide) ?_
      refine sm_aload_n (i := 1) (j := 2) (pc' := 1671) d_L_law_1670 rfl rfl rfl (sm_aload_n (i := 0) (j := 1) (pc' := 1672) d_L_law_1671 rfl rfl rfl (sm_iload_n (i := 3) (j := 0) (pc' := 1673) d_L_law_1672 rfl rfl rfl (sm_iconst (pc' := 1674) d_L_law_1673 rfl ic_1 (sm_iadd (pc' := 1675) d_L_law_1674 rfl ?_))))
      refine sm_xld (pc' := 1676) d_L_law_1675 rfl (fun v255 => ?_)
      refine sm_aload_n (i := 0) (j := 1) (pc' := 1677) d_L_law_1676 rfl rfl rfl (sm_iload_n (i := 3) (j := 0) (pc' := 1678) d_L_law_1677 rfl rfl rfl (sm_iconst (pc' := 1679) d_L_law_1678 rfl ic_2 (sm_iadd (pc' := 1680) d_L_law_1679 rfl ?_)))
      refine sm_xld (pc' := 1681) d_L_law_1680 rfl (fun v256 => ?_)
      refine sm_aload_n (i := 0) (j := 1) (pc' := 1682) d_L_law_1681 rfl rfl rfl (sm_iload_n (i := 3) (j := 0) (pc' := 1683) d_L_law_1682 rfl rfl rfl (sm_iconst (pc' := 1684) d_L_law_1683 rfl ic_3 (sm_iadd (pc' := 1685) d_L_law_1684 rfl ?_)))
      refine sm_xld (pc' := 1686) d_L_law_1685 rfl (fun v257 => ?_)
      refine sm_callVi (ci := 0) (x := (some a1)) (av := [.inl v255, .inl v256, .inl v257]) (st := []) (mc := 0) (ms := 0) (pc' := 1689) d_L_law_1686 rfl (sd_C_thickFor (some a1) v255 v256 v257) m_lv rfl cv_C_thickFor w_ml_L_207 rfl rfl (by decide) (Nat.le_of_ble_eq_true rfl) rfl rfl (fun v258 => ?_)
      refine sm_aload_n (i := 2) (j := 3) (pc' := 1690) d_L_law_1689 rfl rfl rfl (sm_aload_n (i := 0) (j := 1) (pc' := 1691) d_L_law_1690 rfl rfl rfl (sm_iload_n (i := 3) (j := 0) (pc' := 1692) d_L_law_1691 rfl rfl rfl (sm_iconst (pc' := 1693) d_L_law_1692 rfl ic_1 (sm_iadd (pc' := 1694) d_L_law_1693 rfl ?_))))
      refine sm_xld (pc' := 1695) d_L_law_1694 rfl (fun v259 => ?_)
      refine sm_aload_n (i := 0) (j := 1) (pc' := 1696) d_L_law_1695 rfl rfl rfl (sm_iload_n (i := 3) (j := 0) (pc' := 1697) d_L_law_1696 rfl rfl rfl (sm_iconst (pc' := 1698) d_L_law_1697 rfl ic_2 (sm_iadd (pc' := 1699) d_L_law_1698 rfl ?_)))
      refine sm_xld (pc' := 1700) d_L_law_1699 rfl (fun v260 => ?_)
      refine sm_aload_n (i := 0) (j := 1) (pc' := 1701) d_L_law_1700 rfl rfl rfl (sm_iload_n (i := 3) (j := 0) (pc' := 1702) d_L_law_1701 rfl rfl rfl (sm_iconst (pc' := 1703) d_L_law_1702 rfl ic_3 (sm_iadd (pc' := 1704) d_L_law_1703 rfl ?_)))
      refine sm_xld (pc' := 1705) d_L_law_1704 rfl (fun v261 => ?_)
      refine sm_callVi (ci := 11) (x := (some a2)) (av := [.inl v259, .inl v260, .inl v261]) (st := [.inl v258]) (mc := 0) (ms := 0) (pc' := 1708) d_L_law_1705 rfl (sd_M_thickFor (some a2) v259 v260 v261) m_lv rfl cv_M_thickFor w_ml_L_210 rfl rfl (by decide) (Nat.le_of_ble_eq_true rfl) rfl rfl (fun v262 => ?_)
      refine sm_icmp_eq (tgt := 1841) (pc' := 1711) d_L_law_1708 rfl rfl ?_ ?_
      · refine sm_iinc (j := 0) (L' := [(3, .inl (t3 + 6)), (0, .inr (.inr (some (0, b, 2)))), (1, .inr (.inr (some a1))), (2, .inr (.inr (some a2)))]) (pc' := 1844) d_L_law_1841 rfl (v := (t3 + 6)) rfl (ix_6 _) (Nat.le_of_ble_eq_true rfl) rfl (sm_goto (tgt := 18) d_L_law_1844 rfl (sm_sub [0, 1, 2, 3] rfl ?_))
        exact sm_rt rfl
      · refine sm_iconst (pc' := 1712) d_L_law_1711 rfl ic_0 ?_
        exact sm_zreturn d_L_law_1712 rfl (by decide) rfl
    refine sm_ite (fun hs33_46 => ?_) (fun hs33_46 => ?_)
    · refine sm_tabIn (off := 1680) (tgt := 1713) d_L_law_33 (by rw [hs33_46]; decide) (by rw [hs33_46]; decide) (by rw [hs33_46]; rfl) rfl ?_
      refine sm_wid (mc' := 0) (ms' := 0) (by decide) (by decide) ?_
      refine sm_aload_n (i := 1) (j := 2) (pc' := 1714) d_L_law_1713 rfl rfl rfl (sm_aload_n (i := 0) (j := 1) (pc' := 1715) d_L_law_1714 rfl rfl rfl (sm_iload_n (i := 3) (j := 0) (pc' := 1716) d_L_law_1715 rfl rfl rfl (sm_iconst (pc' := 1717) d_L_law_1716 rfl ic_1 (sm_iadd (pc' := 1718) d_L_law_1717 rfl ?_))))
      refine sm_xld (pc' := 1719) d_L_law_1718 rfl (fun v263 => ?_)
      refine sm_callVi (ci := 0) (x := (some a1)) (av := [.inl v263]) (st := []) (mc := 0) (ms := 0) (pc' := 1722) d_L_law_1719 rfl (sd_C_blame (some a1) v263) m_lv rfl cv_C_blame w_ml_L_211 rfl rfl (by decide) (Nat.le_of_ble_eq_true rfl) rfl rfl (fun v264 => ?_)
      refine sm_aload_n (i := 2) (j := 3) (pc' := 1723) d_L_law_1722 rfl rfl rfl (sm_aload_n (i := 0) (j := 1) (pc' := 1724) d_L_law_1723 rfl rfl rfl (sm_iload_n (i := 3) (j := 0) (pc' := 1725) d_L_law_1724 rfl rfl rfl (sm_iconst (pc' := 1726) d_L_law_1725 rfl ic_1 (sm_iadd (pc' := 1727) d_L_law_1726 rfl ?_))))
      refine sm_xld (pc' := 1728) d_L_law_1727 rfl (fun v265 => ?_)
      refine sm_callVi (ci := 11) (x := (some a2)) (av := [.inl v265]) (st := [.inl v264]) (mc := 0) (ms := 0) (pc' := 1731) d_L_law_1728 rfl (sd_M_blame (some a2) v265) m_lv rfl cv_M_blame w_ml_L_215 rfl rfl (by decide) (Nat.le_of_ble_eq_true rfl) rfl rfl (fun v266 => ?_)
      refine sm_icmp_eq (tgt := 1841) (pc' := 1734) d_L_law_1731 rfl rfl ?_ ?_
      · refine sm_iinc (j := 0) (L' := [(3, .inl (t3 + 6)), (0, .inr (.inr (some (0, b, 2)))), (1, .inr (.inr (some a1))), (2, .inr (.inr (some a2)))]) (pc' := 1844) d_L_law_1841 rfl (v := (t3 + 6)) rfl (ix_6 _) (Nat.le_of_ble_eq_true rfl) rfl (sm_goto (tgt := 18) d_L_law_1844 rfl (sm_sub [0, 1, 2, 3] rfl ?_))
        exact sm_rt rfl
      · refine sm_iconst (pc' := 1735) d_L_law_1734 rfl ic_0 ?_
        exact sm_zreturn d_L_law_1735 rfl (by decide) rfl
    refine sm_ite (fun hs33_47 => ?_) (fun hs33_47 => ?_)
    · refine sm_tabIn (off := 1703) (tgt := 1736) d_L_law_33 (by rw [hs33_47]; decide) (by rw [hs33_47]; decide) (by rw [hs33_47]; rfl) rfl ?_
      refine sm_wid (mc' := 0) (ms' := 0) (by decide) (by decide) ?_
      refine sm_aload_n (i := 1) (j := 2) (pc' := 1737) d_L_law_1736 rfl rfl rfl (sm_aload_n (i := 0) (j := 1) (pc' := 1738) d_L_law_1737 rfl rfl rfl (sm_iload_n (i := 3) (j := 0) (pc' := 1739) d_L_law_1738 rfl rfl rfl (sm_iconst (pc' := 1740) d_L_law_1739 rfl ic_1 (sm_iadd (pc' := 1741) d_L_law_1740 rfl ?_))))
      refine sm_xld (pc' := 1742) d_L_law_1741 rfl (fun v267 => ?_)
      refine sm_callVi (ci := 0) (x := (some a1)) (av := [.inl v267]) (st := []) (mc := 0) (ms := 0) (pc' := 1745) d_L_law_1742 rfl (sd_C_live (some a1) v267) m_lv rfl cv_C_live w_ml_L_216 rfl rfl (by decide) (Nat.le_of_ble_eq_true rfl) rfl rfl (fun v268 => ?_)
      refine sm_aload_n (i := 2) (j := 3) (pc' := 1746) d_L_law_1745 rfl rfl rfl (sm_aload_n (i := 0) (j := 1) (pc' := 1747) d_L_law_1746 rfl rfl rfl (sm_iload_n (i := 3) (j := 0) (pc' := 1748) d_L_law_1747 rfl rfl rfl (sm_iconst (pc' := 1749) d_L_law_1748 rfl ic_1 (sm_iadd (pc' := 1750) d_L_law_1749 rfl ?_))))
      refine sm_xld (pc' := 1751) d_L_law_1750 rfl (fun v269 => ?_)
      refine sm_callVi (ci := 11) (x := (some a2)) (av := [.inl v269]) (st := [.inl v268]) (mc := 0) (ms := 0) (pc' := 1754) d_L_law_1751 rfl (sd_M_live (some a2) v269) m_lv rfl cv_M_live w_ml_L_219 rfl rfl (by decide) (Nat.le_of_ble_eq_true rfl) rfl rfl (fun v270 => ?_)
      refine sm_icmp_eq (tgt := 1841) (pc' := 1757) d_L_law_1754 rfl rfl ?_ ?_
      · refine sm_iinc (j := 0) (L' := [(3, .inl (t3 + 6)), (0, .inr (.inr (some (0, b, 2)))), (1, .inr (.inr (some a1))), (2, .inr (.inr (some a2)))]) (pc' := 1844) d_L_law_1841 rfl (v := (t3 + 6)) rfl (ix_6 _) (Nat.le_of_ble_eq_true rfl) rfl (sm_goto (tgt := 18) d_L_law_1844 rfl (sm_sub [0, 1, 2, 3] rfl ?_))
        exact sm_rt rfl
      · refine sm_iconst (pc' := 1758) d_L_law_1757 rfl ic_0 ?_
        exact sm_zreturn d_L_law_1758 rfl (by decide) rfl
    refine sm_ite (fun hs33_48 => ?_) (fun hs33_48 => ?_)
    · refine sm_tabIn (off := 1726) (tgt := 1759) d_L_law_33 (by rw [hs33_48]; decide) (by rw [hs33_48]; decide) (by rw [hs33_48]; rfl) rfl ?_
      refine sm_wid (mc' := 0) (ms' := 0) (by decide) (by decide) ?_
      refine sm_aload_n (i := 1) (j := 2) (pc' := 1760) d_L_law_1759 rfl rfl rfl (sm_aload_n (i := 0) (j := 1) (pc' := 1761) d_L_law_1760 rfl rfl rfl (sm_iload_n (i := 3) (j := 0) (pc' := 1762) d_L_law_1761 rfl rfl rfl (sm_iconst (pc' := 1763) d_L_law_1762 rfl ic_1 (sm_iadd (pc' := 1764) d_L_law_1763 rfl ?_))))
      refine sm_xld (pc' := 1765) d_L_law_1764 rfl (fun v271 => ?_)
      refine sm_callVi (ci := 0) (x := (some a1)) (av := [.inl v271]) (st := []) (mc := 0) (ms := 0) (pc' := 1768) d_L_law_1765 rfl (sd_C_lived (some a1) v271) m_lv rfl cv_C_lived w_ml_L_220 rfl rfl (by decide) (Nat.le_of_ble_eq_true rfl) rfl rfl (fun v272 => ?_)
      refine sm_aload_n (i := 2) (j := 3) (pc' := 1769) d_L_law_1768 rfl rfl rfl (sm_aload_n (i := 0) (j := 1) (pc' := 1770) d_L_law_1769 rfl rfl rfl (sm_iload_n (i := 3) (j := 0) (pc' := 1771) d_L_law_1770 rfl rfl rfl (sm_iconst (pc' := 1772) d_L_law_1771 rfl ic_1 (sm_iadd (pc' := 1773) d_L_law_1772 rfl ?_))))
      refine sm_xld (pc' := 1774) d_L_law_1773 rfl (fun v273 => ?_)
      refine sm_callVi (ci := 11) (x := (some a2)) (av := [.inl v273]) (st := [.inl v272]) (mc := 0) (ms := 0) (pc' := 1777) d_L_law_1774 rfl (sd_M_lived (some a2) v273) m_lv rfl cv_M_lived w_ml_L_223 rfl rfl (by decide) (Nat.le_of_ble_eq_true rfl) rfl rfl (fun v274 => ?_)
      refine sm_icmp_eq (tgt := 1841) (pc' := 1780) d_L_law_1777 rfl rfl ?_ ?_
      · refine sm_iinc (j := 0) (L' := [(3, .inl (t3 + 6)), (0, .inr (.inr (some (0, b, 2)))), (1, .inr (.inr (some a1))), (2, .inr (.inr (some a2)))]) (pc' := 1844) d_L_law_1841 rfl (v := (t3 + 6)) rfl (ix_6 _) (Nat.le_of_ble_eq_true rfl) rfl (sm_goto (tgt := 18) d_L_law_1844 rfl (sm_sub [0, 1, 2, 3] rfl ?_))
        exact sm_rt rfl
      · refine sm_iconst (pc' := 1781) d_L_law_1780 rfl ic_0 ?_
        exact sm_zreturn d_L_law_1781 rfl (by decide) rfl
    refine sm_ite (fun hs33_49 => ?_) (fun hs33_49 => ?_)
    · refine sm_tabIn (off := 1749) (tgt := 1782) d_L_law_33 (by rw [hs33_49]; decide) (by rw [hs33_49]; decide) (by rw [hs33_49]; rfl) rfl ?_
      refine sm_wid (mc' := 0) (ms' := 0) (by decide) (by decide) ?_
      refine sm_aload_n (i := 1) (j := 2) (pc' := 1783) d_L_law_1782 rfl rfl rfl (sm_aload_n (i := 0) (j := 1) (pc' := 1784) d_L_law_1783 rfl rfl rfl (sm_iload_n (i := 3) (j := 0) (pc' := 1785) d_L_law_1784 rfl rfl rfl (sm_iconst (pc' := 1786) d_L_law_1785 rfl ic_1 (sm_iadd (pc' := 1787) d_L_law_1786 rfl ?_))))
      refine sm_xld (pc' := 1788) d_L_law_1787 rfl (fun v275 => ?_)
      refine sm_aload_n (i := 0) (j := 1) (pc' := 1789) d_L_law_1788 rfl rfl rfl (sm_iload_n (i := 3) (j := 0) (pc' := 1790) d_L_law_1789 rfl rfl rfl (sm_iconst (pc' := 1791) d_L_law_1790 rfl ic_2 (sm_iadd (pc' := 1792) d_L_law_1791 rfl ?_)))
      refine sm_xld (pc' := 1793) d_L_law_1792 rfl (fun v276 => ?_)
      refine sm_callVi (ci := 0) (x := (some a1)) (av := [.inl v275, .inl v276]) (st := []) (mc := 0) (ms := 0) (pc' := 1796) d_L_law_1793 rfl (sd_C_mean (some a1) v275 v276) m_lv rfl cv_C_mean w_ml_L_224 rfl rfl (by decide) (Nat.le_of_ble_eq_true rfl) rfl rfl (fun v277 => ?_)
      refine sm_aload_n (i := 2) (j := 3) (pc' := 1797) d_L_law_1796 rfl rfl rfl (sm_aload_n (i := 0) (j := 1) (pc' := 1798) d_L_law_1797 rfl rfl rfl (sm_iload_n (i := 3) (j := 0) (pc' := 1799) d_L_law_1798 rfl rfl rfl (sm_iconst (pc' := 1800) d_L_law_1799 rfl ic_1 (sm_iadd (pc' := 1801) d_L_law_1800 rfl ?_))))
      refine sm_xld (pc' := 1802) d_L_law_1801 rfl (fun v278 => ?_)
      refine sm_aload_n (i := 0) (j := 1) (pc' := 1803) d_L_law_1802 rfl rfl rfl (sm_iload_n (i := 3) (j := 0) (pc' := 1804) d_L_law_1803 rfl rfl rfl (sm_iconst (pc' := 1805) d_L_law_1804 rfl ic_2 (sm_iadd (pc' := 1806) d_L_law_1805 rfl ?_)))
      refine sm_xld (pc' := 1807) d_L_law_1806 rfl (fun v279 => ?_)
      refine sm_callVi (ci := 11) (x := (some a2)) (av := [.inl v278, .inl v279]) (st := [.inl v277]) (mc := 0) (ms := 0) (pc' := 1810) d_L_law_1807 rfl (sd_M_mean (some a2) v278 v279) m_lv rfl cv_M_mean w_ml_L_227 rfl rfl (by decide) (Nat.le_of_ble_eq_true rfl) rfl rfl (fun v280 => ?_)
      refine sm_icmp_eq (tgt := 1841) (pc' := 1813) d_L_law_1810 rfl rfl ?_ ?_
      · refine sm_iinc (j := 0) (L' := [(3, .inl (t3 + 6)), (0, .inr (.inr (some (0, b, 2)))), (1, .inr (.inr (some a1))), (2, .inr (.inr (some a2)))]) (pc' := 1844) d_L_law_1841 rfl (v := (t3 + 6)) rfl (ix_6 _) (Nat.le_of_ble_eq_true rfl) rfl (sm_goto (tgt := 18) d_L_law_1844 rfl (sm_sub [0, 1, 2, 3] rfl ?_))
        exact sm_rt rfl
      · refine sm_iconst (pc' := 1814) d_L_law_1813 rfl ic_0 ?_
        exact sm_zreturn d_L_law_1814 rfl (by decide) rfl
    refine sm_ite (fun hs33_50 => ?_) (fun hs33_50 => ?_)
    · refine sm_tabIn (off := 1782) (tgt := 1815) d_L_law_33 (by rw [hs33_50]; decide) (by rw [hs33_50]; decide) (by rw [hs33_50]; rfl) rfl ?_
      refine sm_aload_n (i := 1) (j := 2) (pc' := 1816) d_L_law_1815 rfl rfl rfl ?_
      refine sm_callVi (ci := 0) (x := (some a1)) (av := []) (st := []) (mc := 0) (ms := 0) (pc' := 1819) d_L_law_1816 rfl (sd_C_mark (some a1)) m_lv rfl cv_C_mark w_ml_L_228 rfl rfl (by decide) (Nat.le_of_ble_eq_true rfl) rfl rfl (fun v281 => ?_)
      refine sm_aload_n (i := 2) (j := 3) (pc' := 1820) d_L_law_1819 rfl rfl rfl ?_
      refine sm_callVi (ci := 11) (x := (some a2)) (av := []) (st := [.inl v281]) (mc := 0) (ms := 0) (pc' := 1823) d_L_law_1820 rfl (sd_M_mark (some a2)) m_lv rfl cv_M_mark w_ml_L_231 rfl rfl (by decide) (Nat.le_of_ble_eq_true rfl) rfl rfl (fun v282 => ?_)
      refine sm_icmp_eq (tgt := 1841) (pc' := 1826) d_L_law_1823 rfl rfl ?_ ?_
      · refine sm_iinc (j := 0) (L' := [(3, .inl (t3 + 6)), (0, .inr (.inr (some (0, b, 2)))), (1, .inr (.inr (some a1))), (2, .inr (.inr (some a2)))]) (pc' := 1844) d_L_law_1841 rfl (v := (t3 + 6)) rfl (ix_6 _) (Nat.le_of_ble_eq_true rfl) rfl (sm_goto (tgt := 18) d_L_law_1844 rfl (sm_sub [0, 1, 2, 3] rfl ?_))
        exact sm_rt rfl
      · refine sm_iconst (pc' := 1827) d_L_law_1826 rfl ic_0 ?_
        exact sm_zreturn d_L_law_1827 rfl (by decide) rfl
    refine sm_ite (fun hs33_51 => ?_) (fun hs33_51 => ?_)
    · refine sm_tabIn (off := 1795) (tgt := 1828) d_L_law_33 (by rw [hs33_51]; decide) (by rw [hs33_51]; decide) (by rw [hs33_51]; rfl) rfl ?_
      refine sm_wid (mc' := 0) (ms' := 0) (by decide) (by decide) ?_
      refine sm_aload_n (i := 1) (j := 2) (pc' := 1829) d_L_law_1828 rfl rfl rfl ?_
      refine sm_callVi (ci := 0) (x := (some a1)) (av := []) (st := []) (mc := 0) (ms := 0) (pc' := 1832) d_L_law_1829 rfl (sd_C_back (some a1)) m_lv rfl cv_C_back w_ml_L_232 rfl rfl (by decide) (Nat.le_of_ble_eq_true rfl) rfl rfl (fun v283 => ?_)
      refine sm_aload_n (i := 2) (j := 3) (pc' := 1833) d_L_law_1832 rfl rfl rfl ?_
      refine sm_callVi (ci := 11) (x := (some a2)) (av := []) (st := [.inl v283]) (mc := 0) (ms := 0) (pc' := 1836) d_L_law_1833 rfl (sd_M_back (some a2)) m_lv rfl cv_M_back w_ml_L_235 rfl rfl (by decide) (Nat.le_of_ble_eq_true rfl) rfl rfl (fun v284 => ?_)
      refine sm_icmp_eq (tgt := 1841) (pc' := 1839) d_L_law_1836 rfl rfl ?_ ?_
      · refine sm_iinc (j := 0) (L' := [(3, .inl (t3 + 6)), (0, .inr (.inr (some (0, b, 2)))), (1, .inr (.inr (some a1))), (2, .inr (.inr (some a2)))]) (pc' := 1844) d_L_law_1841 rfl (v := (t3 + 6)) rfl (ix_6 _) (Nat.le_of_ble_eq_true rfl) rfl (sm_goto (tgt := 18) d_L_law_1844 rfl (sm_sub [0, 1, 2, 3] rfl ?_))
        exact sm_rt rfl
      · refine sm_iconst (pc' := 1840) d_L_law_1839 rfl ic_0 ?_
        exact sm_zreturn d_L_law_1840 rfl (by decide) rfl
    refine sm_tabOut (tgt := 1841) d_L_law_33 (by have z0 : ((v4 &&& 63)).toInt ≠ 0 := fun e => hs33_0 (Int32.toInt_inj.mp (by rw [e]; rfl)); have z1 : ((v4 &&& 63)).toInt ≠ 1 := fun e => hs33_1 (Int32.toInt_inj.mp (by rw [e]; rfl)); have z2 : ((v4 &&& 63)).toInt ≠ 2 := fun e => hs33_2 (Int32.toInt_inj.mp (by rw [e]; rfl)); have z3 : ((v4 &&& 63)).toInt ≠ 3 := fun e => hs33_3 (Int32.toInt_inj.mp (by rw [e]; rfl)); have z4 : ((v4 &&& 63)).toInt ≠ 4 := fun e => hs33_4 (Int32.toInt_inj.mp (by rw [e]; rfl)); have z5 : ((v4 &&& 63)).toInt ≠ 5 := fun e => hs33_5 (Int32.toInt_inj.mp (by rw [e]; rfl)); have z6 : ((v4 &&& 63)).toInt ≠ 6 := fun e => hs33_6 (Int32.toInt_inj.mp (by rw [e]; rfl)); have z7 : ((v4 &&& 63)).toInt ≠ 7 := fun e => hs33_7 (Int32.toInt_inj.mp (by rw [e]; rfl)); have z8 : ((v4 &&& 63)).toInt ≠ 8 := fun e => hs33_8 (Int32.toInt_inj.mp (by rw [e]; rfl)); have z9 : ((v4 &&& 63)).toInt ≠ 9 := fun e => hs33_9 (Int32.toInt_inj.mp (by rw [e]; rfl)); have z10 : ((v4 &&& 63)).toInt ≠ 10 := fun e => hs33_10 (Int32.toInt_inj.mp (by rw [e]; rfl)); have z11 : ((v4 &&& 63)).toInt ≠ 11 := fun e => hs33_11 (Int32.toInt_inj.mp (by rw [e]; rfl)); have z12 : ((v4 &&& 63)).toInt ≠ 12 := fun e => hs33_12 (Int32.toInt_inj.mp (by rw [e]; rfl)); have z13 : ((v4 &&& 63)).toInt ≠ 13 := fun e => hs33_13 (Int32.toInt_inj.mp (by rw [e]; rfl)); have z14 : ((v4 &&& 63)).toInt ≠ 14 := fun e => hs33_14 (Int32.toInt_inj.mp (by rw [e]; rfl)); have z15 : ((v4 &&& 63)).toInt ≠ 15 := fun e => hs33_15 (Int32.toInt_inj.mp (by rw [e]; rfl)); have z16 : ((v4 &&& 63)).toInt ≠ 16 := fun e => hs33_16 (Int32.toInt_inj.mp (by rw [e]; rfl)); have z17 : ((v4 &&& 63)).toInt ≠ 17 := fun e => hs33_17 (Int32.toInt_inj.mp (by rw [e]; rfl)); have z18 : ((v4 &&& 63)).toInt ≠ 18 := fun e => hs33_18 (Int32.toInt_inj.mp (by rw [e]; rfl)); have z19 : ((v4 &&& 63)).toInt ≠ 19 := fun e => hs33_19 (Int32.toInt_inj.mp (by rw [e]; rfl)); have z20 : ((v4 &&& 63)).toInt ≠ 20 := fun e => hs33_20 (Int32.toInt_inj.mp (by rw [e]; rfl)); have z21 : ((v4 &&& 63)).toInt ≠ 21 := fun e => hs33_21 (Int32.toInt_inj.mp (by rw [e]; rfl)); have z22 : ((v4 &&& 63)).toInt ≠ 22 := fun e => hs33_22 (Int32.toInt_inj.mp (by rw [e]; rfl)); have z23 : ((v4 &&& 63)).toInt ≠ 23 := fun e => hs33_23 (Int32.toInt_inj.mp (by rw [e]; rfl)); have z24 : ((v4 &&& 63)).toInt ≠ 24 := fun e => hs33_24 (Int32.toInt_inj.mp (by rw [e]; rfl)); have z25 : ((v4 &&& 63)).toInt ≠ 25 := fun e => hs33_25 (Int32.toInt_inj.mp (by rw [e]; rfl)); have z26 : ((v4 &&& 63)).toInt ≠ 26 := fun e => hs33_26 (Int32.toInt_inj.mp (by rw [e]; rfl)); have z27 : ((v4 &&& 63)).toInt ≠ 27 := fun e => hs33_27 (Int32.toInt_inj.mp (by rw [e]; rfl)); have z28 : ((v4 &&& 63)).toInt ≠ 28 := fun e => hs33_28 (Int32.toInt_inj.mp (by rw [e]; rfl)); have z29 : ((v4 &&& 63)).toInt ≠ 29 := fun e => hs33_29 (Int32.toInt_inj.mp (by rw [e]; rfl)); have z30 : ((v4 &&& 63)).toInt ≠ 30 := fun e => hs33_30 (Int32.toInt_inj.mp (by rw [e]; rfl)); have z31 : ((v4 &&& 63)).toInt ≠ 31 := fun e => hs33_31 (Int32.toInt_inj.mp (by rw [e]; rfl)); have z32 : ((v4 &&& 63)).toInt ≠ 32 := fun e => hs33_32 (Int32.toInt_inj.mp (by rw [e]; rfl)); have z33 : ((v4 &&& 63)).toInt ≠ 33 := fun e => hs33_33 (Int32.toInt_inj.mp (by rw [e]; rfl)); have z34 : ((v4 &&& 63)).toInt ≠ 34 := fun e => hs33_34 (Int32.toInt_inj.mp (by rw [e]; rfl)); have z35 : ((v4 &&& 63)).toInt ≠ 35 := fun e => hs33_35 (Int32.toInt_inj.mp (by rw [e]; rfl)); have z36 : ((v4 &&& 63)).toInt ≠ 36 := fun e => hs33_36 (Int32.toInt_inj.mp (by rw [e]; rfl)); have z37 : ((v4 &&& 63)).toInt ≠ 37 := fun e => hs33_37 (Int32.toInt_inj.mp (by rw [e]; rfl)); have z38 : ((v4 &&& 63)).toInt ≠ 38 := fun e => hs33_38 (Int32.toInt_inj.mp (by rw [e]; rfl)); have z39 : ((v4 &&& 63)).toInt ≠ 39 := fun e => hs33_39 (Int32.toInt_inj.mp (by rw [e]; rfl)); have z40 : ((v4 &&& 63)).toInt ≠ 40 := fun e => hs33_40 (Int32.toInt_inj.mp (by rw [e]; rfl)); have z41 : ((v4 &&& 63)).toInt ≠ 41 := fun e => hs33_41 (Int32.toInt_inj.mp (by rw [e]; rfl)); have z42 : ((v4 &&& 63)).toInt ≠ 42 := fun e => hs33_42 (Int32.toInt_inj.mp (by rw [e]; rfl)); have z43 : ((v4 &&& 63)).toInt ≠ 43 := fun e => hs33_43 (Int32.toInt_inj.mp (by rw [e]; rfl)); have z44 : ((v4 &&& 63)).toInt ≠ 44 := fun e => hs33_44 (Int32.toInt_inj.mp (by rw [e]; rfl)); have z45 : ((v4 &&& 63)).toInt ≠ 45 := fun e => hs33_45 (Int32.toInt_inj.mp (by rw [e]; rfl)); have z46 : ((v4 &&& 63)).toInt ≠ 46 := fun e => hs33_46 (Int32.toInt_inj.mp (by rw [e]; rfl)); have z47 : ((v4 &&& 63)).toInt ≠ 47 := fun e => hs33_47 (Int32.toInt_inj.mp (by rw [e]; rfl)); have z48 : ((v4 &&& 63)).toInt ≠ 48 := fun e => hs33_48 (Int32.toInt_inj.mp (by rw [e]; rfl)); have z49 : ((v4 &&& 63)).toInt ≠ 49 := fun e => hs33_49 (Int32.toInt_inj.mp (by rw [e]; rfl)); have z50 : ((v4 &&& 63)).toInt ≠ 50 := fun e => hs33_50 (Int32.toInt_inj.mp (by rw [e]; rfl)); have z51 : ((v4 &&& 63)).toInt ≠ 51 := fun e => hs33_51 (Int32.toInt_inj.mp (by rw [e]; rfl)); omega) rfl ?_
    refine sm_wid (mc' := 0) (ms' := 0) (by decide) (by decide) ?_
    refine sm_iinc (j := 0) (L' := [(3, .inl (t3 + 6)), (0, .inr (.inr (some (0, b, 2)))), (1, .inr (.inr (some a1))), (2, .inr (.inr (some a2)))]) (pc' := 1844) d_L_law_1841 rfl (v := (t3 + 6)) rfl (ix_6 _) (Nat.le_of_ble_eq_true rfl) rfl (sm_goto (tgt := 18) d_L_law_1844 rfl (sm_sub [0, 1, 2, 3] rfl ?_))
    exact sm_rt rfl
