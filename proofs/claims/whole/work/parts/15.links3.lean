theorem kVX10_needsWord {G : GG} {M : MI} {pc : Nat} {L : List (Option Value)} {st : List Value} {σ : Hp} {d d' : Nat} {Q Qc : Option Value → Hp → Prop} {As rest : List Value} {idx : Nat} {b : Nat} (h1 : Cond.methodLink M.1.cls idx yX10_needsWord ∈ WS) (hd : decode M.2.1 pc = .ok (.invokevirtual idx, 3)) (hS : Sp G mX10_needsWord d' (.ref b :: As) σ Qc) (hK : zK σ b = 9) (hn : As.length = 1) (hlen : (lg_sl (.ref b :: As)).length ≤ 3) (hst : st = As.reverse ++ .ref b :: rest) (hr : (rest.map fun v => v.category).sum ≤ 8) (hdd : d' + 1 ≤ d) (kk : ∀ v σ', Qc v σ' → HT G M (pc + 3) L (v.toList ++ rest) σ' d Q) : HT G M pc L st σ d Q := ht_callV mvX10_needsWord h1 ivX10_needsWord seX10_needsWord npX10_needsWord hn (ci := 9) (by decide) rfl hK hd hlen hst hr hdd hS kk
abbrev mX10_readsDoor : MI := (yX10_readsDoor, cX10_readsDoor, 2, some .boolean)
theorem mvX10_readsDoor : MV mX10_readsDoor := ⟨(ws_t6 (List.mem_of_getElem? (i := 82) rfl) rfl), (ws_t1 (List.mem_of_getElem? (i := 6) rfl) rfl), by decide +kernel, ⟨by decide +kernel, by decide +kernel⟩, by decide⟩
theorem npX10_readsDoor : (parseMethodDescriptor mX10_readsDoor.1.desc).map (fun d => d.parameters.length) = some 0 := by decide +kernel
theorem ivX10_readsDoor : Cond.instanceMethod mX10_readsDoor.1 ∈ WS := (ws_t6 (List.mem_of_getElem? (i := 81) rfl) rfl)
theorem seX10_readsDoor : Cond.selects mX10_readsDoor.1.cls mX10_readsDoor.1 mX10_readsDoor.1 ∈ WS := (ws_p4 (List.mem_of_getElem? (i := 8) rfl))
theorem kVX10_readsDoor {G : GG} {M : MI} {pc : Nat} {L : List (Option Value)} {st : List Value} {σ : Hp} {d d' : Nat} {Q Qc : Option Value → Hp → Prop} {As rest : List Value} {idx : Nat} {b : Nat} (h1 : Cond.methodLink M.1.cls idx yX10_readsDoor ∈ WS) (hd : decode M.2.1 pc = .ok (.invokevirtual idx, 3)) (hS : Sp G mX10_readsDoor d' (.ref b :: As) σ Qc) (hK : zK σ b = 9) (hn : As.length = 0) (hlen : (lg_sl (.ref b :: As)).length ≤ 2) (hst : st = As.reverse ++ .ref b :: rest) (hr : (rest.map fun v => v.category).sum ≤ 8) (hdd : d' + 1 ≤ d) (kk : ∀ v σ', Qc v σ' → HT G M (pc + 3) L (v.toList ++ rest) σ' d Q) : HT G M pc L st σ d Q := ht_callV mvX10_readsDoor h1 ivX10_readsDoor seX10_readsDoor npX10_readsDoor hn (ci := 9) (by decide) rfl hK hd hlen hst hr hdd hS kk
abbrev mX10_needsCell : MI := (yX10_needsCell, cX10_needsCell, 1, some .boolean)
theorem mvX10_needsCell : MV mX10_needsCell := ⟨(ws_t6 (List.mem_of_getElem? (i := 86) rfl) rfl), (ws_t1 (List.mem_of_getElem? (i := 6) rfl) rfl), by decide +kernel, ⟨by decide +kernel, by decide +kernel⟩, by decide⟩
theorem npX10_needsCell : (parseMethodDescriptor mX10_needsCell.1.desc).map (fun d => d.parameters.length) = some 0 := by decide +kernel
theorem ivX10_needsCell : Cond.instanceMethod mX10_needsCell.1 ∈ WS := (ws_t6 (List.mem_of_getElem? (i := 85) rfl) rfl)
theorem seX10_needsCell : Cond.selects mX10_needsCell.1.cls mX10_needsCell.1 mX10_needsCell.1 ∈ WS := (ws_p4 (List.mem_of_getElem? (i := 9) rfl))
theorem kVX10_needsCell {G : GG} {M : MI} {pc : Nat} {L : List (Option Value)} {st : List Value} {σ : Hp} {d d' : Nat} {Q Qc : Option Value → Hp → Prop} {As rest : List Value} {idx : Nat} {b : Nat} (h1 : Cond.methodLink M.1.cls idx yX10_needsCell ∈ WS) (hd : decode M.2.1 pc = .ok (.invokevirtual idx, 3)) (hS : Sp G mX10_needsCell d' (.ref b :: As) σ Qc) (hK : zK σ b = 9) (hn : As.length = 0) (hlen : (lg_sl (.ref b :: As)).length ≤ 1) (hst : st = As.reverse ++ .ref b :: rest) (hr : (rest.map fun v => v.category).sum ≤ 8) (hdd : d' + 1 ≤ d) (kk : ∀ v σ', Qc v σ' → HT G M (pc + 3) L (v.toList ++ rest) σ' d Q) : HT G M pc L st σ d Q := ht_callV mvX10_needsCell h1 ivX10_needsCell seX10_needsCell npX10_needsCell hn (ci := 9) (by decide) rfl hK hd hlen hst hr hdd hS kk
abbrev mX10_readsMan : MI := (yX10_readsMan, cX10_readsMan, 2, some .boolean)
theorem mvX10_readsMan : MV mX10_readsMan := ⟨(ws_t6 (List.mem_of_getElem? (i := 90) rfl) rfl), (ws_t1 (List.mem_of_getElem? (i := 6) rfl) rfl), by decide +kernel, ⟨by decide +kernel, by decide +kernel⟩, by decide⟩
theorem npX10_readsMan : (parseMethodDescriptor mX10_readsMan.1.desc).map (fun d => d.parameters.length) = some 0 := by decide +kernel
theorem ivX10_readsMan : Cond.instanceMethod mX10_readsMan.1 ∈ WS := (ws_t6 (List.mem_of_getElem? (i := 89) rfl) rfl)
theorem seX10_readsMan : Cond.selects mX10_readsMan.1.cls mX10_readsMan.1 mX10_readsMan.1 ∈ WS := (ws_p4 (List.mem_of_getElem? (i := 10) rfl))
theorem kVX10_readsMan {G : GG} {M : MI} {pc : Nat} {L : List (Option Value)} {st : List Value} {σ : Hp} {d d' : Nat} {Q Qc : Option Value → Hp → Prop} {As rest : List Value} {idx : Nat} {b : Nat} (h1 : Cond.methodLink M.1.cls idx yX10_readsMan ∈ WS) (hd : decode M.2.1 pc = .ok (.invokevirtual idx, 3)) (hS : Sp G mX10_readsMan d' (.ref b :: As) σ Qc) (hK : zK σ b = 9) (hn : As.length = 0) (hlen : (lg_sl (.ref b :: As)).length ≤ 2) (hst : st = As.reverse ++ .ref b :: rest) (hr : (rest.map fun v => v.category).sum ≤ 8) (hdd : d' + 1 ≤ d) (kk : ∀ v σ', Qc v σ' → HT G M (pc + 3) L (v.toList ++ rest) σ' d Q) : HT G M pc L st σ d Q := ht_callV mvX10_readsMan h1 ivX10_readsMan seX10_readsMan npX10_readsMan hn (ci := 9) (by decide) rfl hK hd hlen hst hr hdd hS kk
abbrev mX10_readsGuard : MI := (yX10_readsGuard, cX10_readsGuard, 2, some .boolean)
theorem mvX10_readsGuard : MV mX10_readsGuard := ⟨(ws_t6 (List.mem_of_getElem? (i := 94) rfl) rfl), (ws_t1 (List.mem_of_getElem? (i := 6) rfl) rfl), by decide +kernel, ⟨by decide +kernel, by decide +kernel⟩, by decide⟩
theorem npX10_readsGuard : (parseMethodDescriptor mX10_readsGuard.1.desc).map (fun d => d.parameters.length) = some 0 := by decide +kernel
theorem ivX10_readsGuard : Cond.instanceMethod mX10_readsGuard.1 ∈ WS := (ws_t6 (List.mem_of_getElem? (i := 93) rfl) rfl)
theorem seX10_readsGuard : Cond.selects mX10_readsGuard.1.cls mX10_readsGuard.1 mX10_readsGuard.1 ∈ WS := (ws_p4 (List.mem_of_getElem? (i := 11) rfl))
theorem kVX10_readsGuard {G : GG} {M : MI} {pc : Nat} {L : List (Option Value)} {st : List Value} {σ : Hp} {d d' : Nat} {Q Qc : Option Value → Hp → Prop} {As rest : List Value} {idx : Nat} {b : Nat} (h1 : Cond.methodLink M.1.cls idx yX10_readsGuard ∈ WS) (hd : decode M.2.1 pc = .ok (.invokevirtual idx, 3)) (hS : Sp G mX10_readsGuard d' (.ref b :: As) σ Qc) (hK : zK σ b = 9) (hn : As.length = 0) (hlen : (lg_sl (.ref b :: As)).length ≤ 2) (hst : st = As.reverse ++ .ref b :: rest) (hr : (rest.map fun v => v.category).sum ≤ 8) (hdd : d' + 1 ≤ d) (kk : ∀ v σ', Qc v σ' → HT G M (pc + 3) L (v.toList ++ rest) σ' d Q) : HT G M pc L st σ d Q := ht_callV mvX10_readsGuard h1 ivX10_readsGuard seX10_readsGuard npX10_readsGuard hn (ci := 9) (by decide) rfl hK hd hlen hst hr hdd hS kk
abbrev mX10_lays : MI := (yX10_lays, cX10_lays, 4, none)
theorem mvX10_lays : MV mX10_lays := ⟨(ws_t6 (List.mem_of_getElem? (i := 98) rfl) rfl), (ws_t1 (List.mem_of_getElem? (i := 6) rfl) rfl), by decide +kernel, ⟨by decide +kernel, by decide +kernel⟩, by decide⟩
theorem npX10_lays : (parseMethodDescriptor mX10_lays.1.desc).map (fun d => d.parameters.length) = some 2 := by decide +kernel
theorem ivX10_lays : Cond.instanceMethod mX10_lays.1 ∈ WS := (ws_t6 (List.mem_of_getElem? (i := 97) rfl) rfl)
theorem seX10_lays : Cond.selects mX10_lays.1.cls mX10_lays.1 mX10_lays.1 ∈ WS := (ws_p4 (List.mem_of_getElem? (i := 12) rfl))
theorem kVX10_lays {G : GG} {M : MI} {pc : Nat} {L : List (Option Value)} {st : List Value} {σ : Hp} {d d' : Nat} {Q Qc : Option Value → Hp → Prop} {As rest : List Value} {idx : Nat} {b : Nat} (h1 : Cond.methodLink M.1.cls idx yX10_lays ∈ WS) (hd : decode M.2.1 pc = .ok (.invokevirtual idx, 3)) (hS : Sp G mX10_lays d' (.ref b :: As) σ Qc) (hK : zK σ b = 9) (hn : As.length = 2) (hlen : (lg_sl (.ref b :: As)).length ≤ 4) (hst : st = As.reverse ++ .ref b :: rest) (hr : (rest.map fun v => v.category).sum ≤ 8) (hdd : d' + 1 ≤ d) (kk : ∀ v σ', Qc v σ' → HT G M (pc + 3) L (v.toList ++ rest) σ' d Q) : HT G M pc L st σ d Q := ht_callV mvX10_lays h1 ivX10_lays seX10_lays npX10_lays hn (ci := 9) (by decide) rfl hK hd hlen hst hr hdd hS kk
abbrev mX10_moves : MI := (yX10_moves, cX10_moves, 5, none)
theorem mvX10_moves : MV mX10_moves := ⟨(ws_t6 (List.mem_of_getElem? (i := 101) rfl) rfl), (ws_t1 (List.mem_of_getElem? (i := 6) rfl) rfl), by decide +kernel, ⟨by decide +kernel, by decide +kernel⟩, by decide⟩
theorem npX10_moves : (parseMethodDescriptor mX10_moves.1.desc).map (fun d => d.parameters.length) = some 4 := by decide +kernel
theorem stX10_moves : Cond.static mX10_moves.1 ∈ WS := (ws_t6 (List.mem_of_getElem? (i := 100) rfl) rfl)
theorem kSX10_moves {G : GG} {M : MI} {pc : Nat} {L : List (Option Value)} {st : List Value} {σ : Hp} {d d' : Nat} {Q Qc : Option Value → Hp → Prop} {As rest : List Value} {idx : Nat} (h1 : Cond.methodLink M.1.cls idx yX10_moves ∈ WS) (hd : decode M.2.1 pc = .ok (.invokestatic idx, 3)) (hS : Sp G mX10_moves d' As σ Qc) (hn : As.length = 4) (hlen : (lg_sl As).length ≤ 5) (hst : st = As.reverse ++ rest) (hr : (rest.map fun v => v.category).sum ≤ 8) (hdd : d' + 1 ≤ d) (kk : ∀ v σ', Qc v σ' → HT G M (pc + 3) L (v.toList ++ rest) σ' d Q) : HT G M pc L st σ d Q := ht_callS mvX10_moves h1 stX10_moves npX10_moves hn hd hlen hst hr hdd hS kk
abbrev mX10_ways : MI := (yX10_ways, cX10_ways, 5, none)
theorem mvX10_ways : MV mX10_ways := ⟨(ws_t6 (List.mem_of_getElem? (i := 105) rfl) rfl), (ws_t1 (List.mem_of_getElem? (i := 6) rfl) rfl), by decide +kernel, ⟨by decide +kernel, by decide +kernel⟩, by decide⟩
theorem npX10_ways : (parseMethodDescriptor mX10_ways.1.desc).map (fun d => d.parameters.length) = some 0 := by decide +kernel
theorem ivX10_ways : Cond.instanceMethod mX10_ways.1 ∈ WS := (ws_t6 (List.mem_of_getElem? (i := 104) rfl) rfl)
theorem seX10_ways : Cond.selects mX10_ways.1.cls mX10_ways.1 mX10_ways.1 ∈ WS := (ws_p4 (List.mem_of_getElem? (i := 13) rfl))
theorem kVX10_ways {G : GG} {M : MI} {pc : Nat} {L : List (Option Value)} {st : List Value} {σ : Hp} {d d' : Nat} {Q Qc : Option Value → Hp → Prop} {As rest : List Value} {idx : Nat} {b : Nat} (h1 : Cond.methodLink M.1.cls idx yX10_ways ∈ WS) (hd : decode M.2.1 pc = .ok (.invokevirtual idx, 3)) (hS : Sp G mX10_ways d' (.ref b :: As) σ Qc) (hK : zK σ b = 9) (hn : As.length = 0) (hlen : (lg_sl (.ref b :: As)).length ≤ 5) (hst : st = As.reverse ++ .ref b :: rest) (hr : (rest.map fun v => v.category).sum ≤ 8) (hdd : d' + 1 ≤ d) (kk : ∀ v σ', Qc v σ' → HT G M (pc + 3) L (v.toList ++ rest) σ' d Q) : HT G M pc L st σ d Q := ht_callV mvX10_ways h1 ivX10_ways seX10_ways npX10_ways hn (ci := 9) (by decide) rfl hK hd hlen hst hr hdd hS kk
abbrev mX10_cell : MI := (yX10_cell, cX10_cell, 3, some .int)
theorem mvX10_cell : MV mX10_cell := ⟨(ws_t6 (List.mem_of_getElem? (i := 109) rfl) rfl), (ws_t1 (List.mem_of_getElem? (i := 6) rfl) rfl), by decide +kernel, ⟨by decide +kernel, by decide +kernel⟩, by decide⟩
theorem npX10_cell : (parseMethodDescriptor mX10_cell.1.desc).map (fun d => d.parameters.length) = some 2 := by decide +kernel
theorem ivX10_cell : Cond.instanceMethod mX10_cell.1 ∈ WS := (ws_t6 (List.mem_of_getElem? (i := 107) rfl) rfl)
theorem seX10_cell : Cond.selects mX10_cell.1.cls mX10_cell.1 mX10_cell.1 ∈ WS := (ws_t6 (List.mem_of_getElem? (i := 108) rfl) rfl)
theorem kVX10_cell {G : GG} {M : MI} {pc : Nat} {L : List (Option Value)} {st : List Value} {σ : Hp} {d d' : Nat} {Q Qc : Option Value → Hp → Prop} {As rest : List Value} {idx : Nat} {b : Nat} (h1 : Cond.methodLink M.1.cls idx yX10_cell ∈ WS) (hd : decode M.2.1 pc = .ok (.invokevirtual idx, 3)) (hS : Sp G mX10_cell d' (.ref b :: As) σ Qc) (hK : zK σ b = 9) (hn : As.length = 2) (hlen : (lg_sl (.ref b :: As)).length ≤ 3) (hst : st = As.reverse ++ .ref b :: rest) (hr : (rest.map fun v => v.category).sum ≤ 8) (hdd : d' + 1 ≤ d) (kk : ∀ v σ', Qc v σ' → HT G M (pc + 3) L (v.toList ++ rest) σ' d Q) : HT G M pc L st σ d Q := ht_callV mvX10_cell h1 ivX10_cell seX10_cell npX10_cell hn (ci := 9) (by decide) rfl hK hd hlen hst hr hdd hS kk
abbrev mX10_isCell : MI := (yX10_isCell, cX10_isCell, 2, some .boolean)
theorem mvX10_isCell : MV mX10_isCell := ⟨(ws_t6 (List.mem_of_getElem? (i := 113) rfl) rfl), (ws_t1 (List.mem_of_getElem? (i := 6) rfl) rfl), by decide +kernel, ⟨by decide +kernel, by decide +kernel⟩, by decide⟩
theorem npX10_isCell : (parseMethodDescriptor mX10_isCell.1.desc).map (fun d => d.parameters.length) = some 1 := by decide +kernel
theorem ivX10_isCell : Cond.instanceMethod mX10_isCell.1 ∈ WS := (ws_t6 (List.mem_of_getElem? (i := 112) rfl) rfl)
theorem seX10_isCell : Cond.selects mX10_isCell.1.cls mX10_isCell.1 mX10_isCell.1 ∈ WS := (ws_p4 (List.mem_of_getElem? (i := 14) rfl))
theorem kVX10_isCell {G : GG} {M : MI} {pc : Nat} {L : List (Option Value)} {st : List Value} {σ : Hp} {d d' : Nat} {Q Qc : Option Value → Hp → Prop} {As rest : List Value} {idx : Nat} {b : Nat} (h1 : Cond.methodLink M.1.cls idx yX10_isCell ∈ WS) (hd : decode M.2.1 pc = .ok (.invokevirtual idx, 3)) (hS : Sp G mX10_isCell d' (.ref b :: As) σ Qc) (hK : zK σ b = 9) (hn : As.length = 1) (hlen : (lg_sl (.ref b :: As)).length ≤ 2) (hst : st = As.reverse ++ .ref b :: rest) (hr : (rest.map fun v => v.category).sum ≤ 8) (hdd : d' + 1 ≤ d) (kk : ∀ v σ', Qc v σ' → HT G M (pc + 3) L (v.toList ++ rest) σ' d Q) : HT G M pc L st σ d Q := ht_callV mvX10_isCell h1 ivX10_isCell seX10_isCell npX10_isCell hn (ci := 9) (by decide) rfl hK hd hlen hst hr hdd hS kk
abbrev mX10_menIn : MI := (yX10_menIn, cX10_menIn, 4, some .int)
theorem mvX10_menIn : MV mX10_menIn := ⟨(ws_t6 (List.mem_of_getElem? (i := 117) rfl) rfl), (ws_t1 (List.mem_of_getElem? (i := 6) rfl) rfl), by decide +kernel, ⟨by decide +kernel, by decide +kernel⟩, by decide⟩
theorem npX10_menIn : (parseMethodDescriptor mX10_menIn.1.desc).map (fun d => d.parameters.length) = some 1 := by decide +kernel
theorem ivX10_menIn : Cond.instanceMethod mX10_menIn.1 ∈ WS := (ws_t6 (List.mem_of_getElem? (i := 116) rfl) rfl)
theorem seX10_menIn : Cond.selects mX10_menIn.1.cls mX10_menIn.1 mX10_menIn.1 ∈ WS := (ws_p4 (List.mem_of_getElem? (i := 15) rfl))
theorem kVX10_menIn {G : GG} {M : MI} {pc : Nat} {L : List (Option Value)} {st : List Value} {σ : Hp} {d d' : Nat} {Q Qc : Option Value → Hp → Prop} {As rest : List Value} {idx : Nat} {b : Nat} (h1 : Cond.methodLink M.1.cls idx yX10_menIn ∈ WS) (hd : decode M.2.1 pc = .ok (.invokevirtual idx, 3)) (hS : Sp G mX10_menIn d' (.ref b :: As) σ Qc) (hK : zK σ b = 9) (hn : As.length = 1) (hlen : (lg_sl (.ref b :: As)).length ≤ 4) (hst : st = As.reverse ++ .ref b :: rest) (hr : (rest.map fun v => v.category).sum ≤ 8) (hdd : d' + 1 ≤ d) (kk : ∀ v σ', Qc v σ' → HT G M (pc + 3) L (v.toList ++ rest) σ' d Q) : HT G M pc L st σ d Q := ht_callV mvX10_menIn h1 ivX10_menIn seX10_menIn npX10_menIn hn (ci := 9) (by decide) rfl hK hd hlen hst hr hdd hS kk
abbrev mX10_guardsIn : MI := (yX10_guardsIn, cX10_guardsIn, 5, some .int)
theorem mvX10_guardsIn : MV mX10_guardsIn := ⟨(ws_t6 (List.mem_of_getElem? (i := 121) rfl) rfl), (ws_t1 (List.mem_of_getElem? (i := 6) rfl) rfl), by decide +kernel, ⟨by decide +kernel, by decide +kernel⟩, by decide⟩
theorem npX10_guardsIn : (parseMethodDescriptor mX10_guardsIn.1.desc).map (fun d => d.parameters.length) = some 2 := by decide +kernel
theorem ivX10_guardsIn : Cond.instanceMethod mX10_guardsIn.1 ∈ WS := (ws_t6 (List.mem_of_getElem? (i := 120) rfl) rfl)
theorem seX10_guardsIn : Cond.selects mX10_guardsIn.1.cls mX10_guardsIn.1 mX10_guardsIn.1 ∈ WS := (ws_p5 (List.mem_of_getElem? (i := 0) rfl))
theorem kVX10_guardsIn {G : GG} {M : MI} {pc : Nat} {L : List (Option Value)} {st : List Value} {σ : Hp} {d d' : Nat} {Q Qc : Option Value → Hp → Prop} {As rest : List Value} {idx : Nat} {b : Nat} (h1 : Cond.methodLink M.1.cls idx yX10_guardsIn ∈ WS) (hd : decode M.2.1 pc = .ok (.invokevirtual idx, 3)) (hS : Sp G mX10_guardsIn d' (.ref b :: As) σ Qc) (hK : zK σ b = 9) (hn : As.length = 2) (hlen : (lg_sl (.ref b :: As)).length ≤ 5) (hst : st = As.reverse ++ .ref b :: rest) (hr : (rest.map fun v => v.category).sum ≤ 8) (hdd : d' + 1 ≤ d) (kk : ∀ v σ', Qc v σ' → HT G M (pc + 3) L (v.toList ++ rest) σ' d Q) : HT G M pc L st σ d Q := ht_callV mvX10_guardsIn h1 ivX10_guardsIn seX10_guardsIn npX10_guardsIn hn (ci := 9) (by decide) rfl hK hd hlen hst hr hdd hS kk
abbrev mX10_door : MI := (yX10_door, cX10_door, 3, some .int)
theorem mvX10_door : MV mX10_door := ⟨(ws_t6 (List.mem_of_getElem? (i := 125) rfl) rfl), (ws_t1 (List.mem_of_getElem? (i := 6) rfl) rfl), by decide +kernel, ⟨by decide +kernel, by decide +kernel⟩, by decide⟩
theorem npX10_door : (parseMethodDescriptor mX10_door.1.desc).map (fun d => d.parameters.length) = some 2 := by decide +kernel
theorem ivX10_door : Cond.instanceMethod mX10_door.1 ∈ WS := (ws_t6 (List.mem_of_getElem? (i := 123) rfl) rfl)
theorem seX10_door : Cond.selects mX10_door.1.cls mX10_door.1 mX10_door.1 ∈ WS := (ws_t6 (List.mem_of_getElem? (i := 124) rfl) rfl)
theorem kVX10_door {G : GG} {M : MI} {pc : Nat} {L : List (Option Value)} {st : List Value} {σ : Hp} {d d' : Nat} {Q Qc : Option Value → Hp → Prop} {As rest : List Value} {idx : Nat} {b : Nat} (h1 : Cond.methodLink M.1.cls idx yX10_door ∈ WS) (hd : decode M.2.1 pc = .ok (.invokevirtual idx, 3)) (hS : Sp G mX10_door d' (.ref b :: As) σ Qc) (hK : zK σ b = 9) (hn : As.length = 2) (hlen : (lg_sl (.ref b :: As)).length ≤ 3) (hst : st = As.reverse ++ .ref b :: rest) (hr : (rest.map fun v => v.category).sum ≤ 8) (hdd : d' + 1 ≤ d) (kk : ∀ v σ', Qc v σ' → HT G M (pc + 3) L (v.toList ++ rest) σ' d Q) : HT G M pc L st σ d Q := ht_callV mvX10_door h1 ivX10_door seX10_door npX10_door hn (ci := 9) (by decide) rfl hK hd hlen hst hr hdd hS kk
abbrev mX10_isDoor : MI := (yX10_isDoor, cX10_isDoor, 2, some .boolean)
theorem mvX10_isDoor : MV mX10_isDoor := ⟨(ws_t6 (List.mem_of_getElem? (i := 129) rfl) rfl), (ws_t1 (List.mem_of_getElem? (i := 6) rfl) rfl), by decide +kernel, ⟨by decide +kernel, by decide +kernel⟩, by decide⟩
theorem npX10_isDoor : (parseMethodDescriptor mX10_isDoor.1.desc).map (fun d => d.parameters.length) = some 1 := by decide +kernel
theorem ivX10_isDoor : Cond.instanceMethod mX10_isDoor.1 ∈ WS := (ws_t6 (List.mem_of_getElem? (i := 128) rfl) rfl)
theorem seX10_isDoor : Cond.selects mX10_isDoor.1.cls mX10_isDoor.1 mX10_isDoor.1 ∈ WS := (ws_p5 (List.mem_of_getElem? (i := 1) rfl))
theorem kVX10_isDoor {G : GG} {M : MI} {pc : Nat} {L : List (Option Value)} {st : List Value} {σ : Hp} {d d' : Nat} {Q Qc : Option Value → Hp → Prop} {As rest : List Value} {idx : Nat} {b : Nat} (h1 : Cond.methodLink M.1.cls idx yX10_isDoor ∈ WS) (hd : decode M.2.1 pc = .ok (.invokevirtual idx, 3)) (hS : Sp G mX10_isDoor d' (.ref b :: As) σ Qc) (hK : zK σ b = 9) (hn : As.length = 1) (hlen : (lg_sl (.ref b :: As)).length ≤ 2) (hst : st = As.reverse ++ .ref b :: rest) (hr : (rest.map fun v => v.category).sum ≤ 8) (hdd : d' + 1 ≤ d) (kk : ∀ v σ', Qc v σ' → HT G M (pc + 3) L (v.toList ++ rest) σ' d Q) : HT G M pc L st σ d Q := ht_callV mvX10_isDoor h1 ivX10_isDoor seX10_isDoor npX10_isDoor hn (ci := 9) (by decide) rfl hK hd hlen hst hr hdd hS kk
abbrev mX10_man : MI := (yX10_man, cX10_man, 3, some .int)
theorem mvX10_man : MV mX10_man := ⟨(ws_t6 (List.mem_of_getElem? (i := 133) rfl) rfl), (ws_t1 (List.mem_of_getElem? (i := 6) rfl) rfl), by decide +kernel, ⟨by decide +kernel, by decide +kernel⟩, by decide⟩
theorem npX10_man : (parseMethodDescriptor mX10_man.1.desc).map (fun d => d.parameters.length) = some 2 := by decide +kernel
theorem ivX10_man : Cond.instanceMethod mX10_man.1 ∈ WS := (ws_t6 (List.mem_of_getElem? (i := 131) rfl) rfl)
theorem seX10_man : Cond.selects mX10_man.1.cls mX10_man.1 mX10_man.1 ∈ WS := (ws_t6 (List.mem_of_getElem? (i := 132) rfl) rfl)
theorem kVX10_man {G : GG} {M : MI} {pc : Nat} {L : List (Option Value)} {st : List Value} {σ : Hp} {d d' : Nat} {Q Qc : Option Value → Hp → Prop} {As rest : List Value} {idx : Nat} {b : Nat} (h1 : Cond.methodLink M.1.cls idx yX10_man ∈ WS) (hd : decode M.2.1 pc = .ok (.invokevirtual idx, 3)) (hS : Sp G mX10_man d' (.ref b :: As) σ Qc) (hK : zK σ b = 9) (hn : As.length = 2) (hlen : (lg_sl (.ref b :: As)).length ≤ 3) (hst : st = As.reverse ++ .ref b :: rest) (hr : (rest.map fun v => v.category).sum ≤ 8) (hdd : d' + 1 ≤ d) (kk : ∀ v σ', Qc v σ' → HT G M (pc + 3) L (v.toList ++ rest) σ' d Q) : HT G M pc L st σ d Q := ht_callV mvX10_man h1 ivX10_man seX10_man npX10_man hn (ci := 9) (by decide) rfl hK hd hlen hst hr hdd hS kk
abbrev mX10_isMan : MI := (yX10_isMan, cX10_isMan, 2, some .boolean)
theorem mvX10_isMan : MV mX10_isMan := ⟨(ws_t6 (List.mem_of_getElem? (i := 137) rfl) rfl), (ws_t1 (List.mem_of_getElem? (i := 6) rfl) rfl), by decide +kernel, ⟨by decide +kernel, by decide +kernel⟩, by decide⟩
theorem npX10_isMan : (parseMethodDescriptor mX10_isMan.1.desc).map (fun d => d.parameters.length) = some 1 := by decide +kernel
theorem ivX10_isMan : Cond.instanceMethod mX10_isMan.1 ∈ WS := (ws_t6 (List.mem_of_getElem? (i := 136) rfl) rfl)
theorem seX10_isMan : Cond.selects mX10_isMan.1.cls mX10_isMan.1 mX10_isMan.1 ∈ WS := (ws_p5 (List.mem_of_getElem? (i := 2) rfl))
theorem kVX10_isMan {G : GG} {M : MI} {pc : Nat} {L : List (Option Value)} {st : List Value} {σ : Hp} {d d' : Nat} {Q Qc : Option Value → Hp → Prop} {As rest : List Value} {idx : Nat} {b : Nat} (h1 : Cond.methodLink M.1.cls idx yX10_isMan ∈ WS) (hd : decode M.2.1 pc = .ok (.invokevirtual idx, 3)) (hS : Sp G mX10_isMan d' (.ref b :: As) σ Qc) (hK : zK σ b = 9) (hn : As.length = 1) (hlen : (lg_sl (.ref b :: As)).length ≤ 2) (hst : st = As.reverse ++ .ref b :: rest) (hr : (rest.map fun v => v.category).sum ≤ 8) (hdd : d' + 1 ≤ d) (kk : ∀ v σ', Qc v σ' → HT G M (pc + 3) L (v.toList ++ rest) σ' d Q) : HT G M pc L st σ d Q := ht_callV mvX10_isMan h1 ivX10_isMan seX10_isMan npX10_isMan hn (ci := 9) (by decide) rfl hK hd hlen hst hr hdd hS kk
abbrev mX10_degrees : MI := (yX10_degrees, cX10_degrees, 2, some .int)
theorem mvX10_degrees : MV mX10_degrees := ⟨(ws_t6 (List.mem_of_getElem? (i := 141) rfl) rfl), (ws_t1 (List.mem_of_getElem? (i := 6) rfl) rfl), by decide +kernel, ⟨by decide +kernel, by decide +kernel⟩, by decide⟩
theorem npX10_degrees : (parseMethodDescriptor mX10_degrees.1.desc).map (fun d => d.parameters.length) = some 1 := by decide +kernel
theorem ivX10_degrees : Cond.instanceMethod mX10_degrees.1 ∈ WS := (ws_t6 (List.mem_of_getElem? (i := 139) rfl) rfl)
theorem seX10_degrees : Cond.selects mX10_degrees.1.cls mX10_degrees.1 mX10_degrees.1 ∈ WS := (ws_t6 (List.mem_of_getElem? (i := 140) rfl) rfl)
theorem kVX10_degrees {G : GG} {M : MI} {pc : Nat} {L : List (Option Value)} {st : List Value} {σ : Hp} {d d' : Nat} {Q Qc : Option Value → Hp → Prop} {As rest : List Value} {idx : Nat} {b : Nat} (h1 : Cond.methodLink M.1.cls idx yX10_degrees ∈ WS) (hd : decode M.2.1 pc = .ok (.invokevirtual idx, 3)) (hS : Sp G mX10_degrees d' (.ref b :: As) σ Qc) (hK : zK σ b = 9) (hn : As.length = 1) (hlen : (lg_sl (.ref b :: As)).length ≤ 2) (hst : st = As.reverse ++ .ref b :: rest) (hr : (rest.map fun v => v.category).sum ≤ 8) (hdd : d' + 1 ≤ d) (kk : ∀ v σ', Qc v σ' → HT G M (pc + 3) L (v.toList ++ rest) σ' d Q) : HT G M pc L st σ d Q := ht_callV mvX10_degrees h1 ivX10_degrees seX10_degrees npX10_degrees hn (ci := 9) (by decide) rfl hK hd hlen hst hr hdd hS kk
abbrev mX10_degreesAt : MI := (yX10_degreesAt, cX10_degreesAt, 3, some .int)
theorem mvX10_degreesAt : MV mX10_degreesAt := ⟨(ws_t6 (List.mem_of_getElem? (i := 145) rfl) rfl), (ws_t1 (List.mem_of_getElem? (i := 6) rfl) rfl), by decide +kernel, ⟨by decide +kernel, by decide +kernel⟩, by decide⟩
theorem npX10_degreesAt : (parseMethodDescriptor mX10_degreesAt.1.desc).map (fun d => d.parameters.length) = some 2 := by decide +kernel
theorem ivX10_degreesAt : Cond.instanceMethod mX10_degreesAt.1 ∈ WS := (ws_t6 (List.mem_of_getElem? (i := 144) rfl) rfl)
theorem seX10_degreesAt : Cond.selects mX10_degreesAt.1.cls mX10_degreesAt.1 mX10_degreesAt.1 ∈ WS := (ws_p5 (List.mem_of_getElem? (i := 3) rfl))
theorem kVX10_degreesAt {G : GG} {M : MI} {pc : Nat} {L : List (Option Value)} {st : List Value} {σ : Hp} {d d' : Nat} {Q Qc : Option Value → Hp → Prop} {As rest : List Value} {idx : Nat} {b : Nat} (h1 : Cond.methodLink M.1.cls idx yX10_degreesAt ∈ WS) (hd : decode M.2.1 pc = .ok (.invokevirtual idx, 3)) (hS : Sp G mX10_degreesAt d' (.ref b :: As) σ Qc) (hK : zK σ b = 9) (hn : As.length = 2) (hlen : (lg_sl (.ref b :: As)).length ≤ 3) (hst : st = As.reverse ++ .ref b :: rest) (hr : (rest.map fun v => v.category).sum ≤ 8) (hdd : d' + 1 ≤ d) (kk : ∀ v σ', Qc v σ' → HT G M (pc + 3) L (v.toList ++ rest) σ' d Q) : HT G M pc L st σ d Q := ht_callV mvX10_degreesAt h1 ivX10_degreesAt seX10_degreesAt npX10_degreesAt hn (ci := 9) (by decide) rfl hK hd hlen hst hr hdd hS kk
abbrev mX10_worked : MI := (yX10_worked, cX10_worked, 6, some .int)
theorem mvX10_worked : MV mX10_worked := ⟨(ws_t6 (List.mem_of_getElem? (i := 149) rfl) rfl), (ws_t1 (List.mem_of_getElem? (i := 6) rfl) rfl), by decide +kernel, ⟨by decide +kernel, by decide +kernel⟩, by decide⟩
theorem npX10_worked : (parseMethodDescriptor mX10_worked.1.desc).map (fun d => d.parameters.length) = some 1 := by decide +kernel
theorem ivX10_worked : Cond.instanceMethod mX10_worked.1 ∈ WS := (ws_t6 (List.mem_of_getElem? (i := 148) rfl) rfl)
theorem seX10_worked : Cond.selects mX10_worked.1.cls mX10_worked.1 mX10_worked.1 ∈ WS := (ws_p5 (List.mem_of_getElem? (i := 4) rfl))
theorem kVX10_worked {G : GG} {M : MI} {pc : Nat} {L : List (Option Value)} {st : List Value} {σ : Hp} {d d' : Nat} {Q Qc : Option Value → Hp → Prop} {As rest : List Value} {idx : Nat} {b : Nat} (h1 : Cond.methodLink M.1.cls idx yX10_worked ∈ WS) (hd : decode M.2.1 pc = .ok (.invokevirtual idx, 3)) (hS : Sp G mX10_worked d' (.ref b :: As) σ Qc) (hK : zK σ b = 9) (hn : As.length = 1) (hlen : (lg_sl (.ref b :: As)).length ≤ 6) (hst : st = As.reverse ++ .ref b :: rest) (hr : (rest.map fun v => v.category).sum ≤ 8) (hdd : d' + 1 ≤ d) (kk : ∀ v σ', Qc v σ' → HT G M (pc + 3) L (v.toList ++ rest) σ' d Q) : HT G M pc L st σ d Q := ht_callV mvX10_worked h1 ivX10_worked seX10_worked npX10_worked hn (ci := 9) (by decide) rfl hK hd hlen hst hr hdd hS kk
abbrev mX10_opens : MI := (yX10_opens, cX10_opens, 2, none)
theorem mvX10_opens : MV mX10_opens := ⟨(ws_t6 (List.mem_of_getElem? (i := 153) rfl) rfl), (ws_t1 (List.mem_of_getElem? (i := 6) rfl) rfl), by decide +kernel, ⟨by decide +kernel, by decide +kernel⟩, by decide⟩
theorem npX10_opens : (parseMethodDescriptor mX10_opens.1.desc).map (fun d => d.parameters.length) = some 1 := by decide +kernel
theorem ivX10_opens : Cond.instanceMethod mX10_opens.1 ∈ WS := (ws_t6 (List.mem_of_getElem? (i := 152) rfl) rfl)
theorem seX10_opens : Cond.selects mX10_opens.1.cls mX10_opens.1 mX10_opens.1 ∈ WS := (ws_p5 (List.mem_of_getElem? (i := 5) rfl))
theorem kVX10_opens {G : GG} {M : MI} {pc : Nat} {L : List (Option Value)} {st : List Value} {σ : Hp} {d d' : Nat} {Q Qc : Option Value → Hp → Prop} {As rest : List Value} {idx : Nat} {b : Nat} (h1 : Cond.methodLink M.1.cls idx yX10_opens ∈ WS) (hd : decode M.2.1 pc = .ok (.invokevirtual idx, 3)) (hS : Sp G mX10_opens d' (.ref b :: As) σ Qc) (hK : zK σ b = 9) (hn : As.length = 1) (hlen : (lg_sl (.ref b :: As)).length ≤ 2) (hst : st = As.reverse ++ .ref b :: rest) (hr : (rest.map fun v => v.category).sum ≤ 8) (hdd : d' + 1 ≤ d) (kk : ∀ v σ', Qc v σ' → HT G M (pc + 3) L (v.toList ++ rest) σ' d Q) : HT G M pc L st σ d Q := ht_callV mvX10_opens h1 ivX10_opens seX10_opens npX10_opens hn (ci := 9) (by decide) rfl hK hd hlen hst hr hdd hS kk
abbrev mX10_sums : MI := (yX10_sums, cX10_sums, 2, none)
theorem mvX10_sums : MV mX10_sums := ⟨(ws_t6 (List.mem_of_getElem? (i := 157) rfl) rfl), (ws_t1 (List.mem_of_getElem? (i := 6) rfl) rfl), by decide +kernel, ⟨by decide +kernel, by decide +kernel⟩, by decide⟩
theorem npX10_sums : (parseMethodDescriptor mX10_sums.1.desc).map (fun d => d.parameters.length) = some 1 := by decide +kernel
theorem ivX10_sums : Cond.instanceMethod mX10_sums.1 ∈ WS := (ws_t6 (List.mem_of_getElem? (i := 156) rfl) rfl)
theorem seX10_sums : Cond.selects mX10_sums.1.cls mX10_sums.1 mX10_sums.1 ∈ WS := (ws_p5 (List.mem_of_getElem? (i := 6) rfl))
theorem kVX10_sums {G : GG} {M : MI} {pc : Nat} {L : List (Option Value)} {st : List Value} {σ : Hp} {d d' : Nat} {Q Qc : Option Value → Hp → Prop} {As rest : List Value} {idx : Nat} {b : Nat} (h1 : Cond.methodLink M.1.cls idx yX10_sums ∈ WS) (hd : decode M.2.1 pc = .ok (.invokevirtual idx, 3)) (hS : Sp G mX10_sums d' (.ref b :: As) σ Qc) (hK : zK σ b = 9) (hn : As.length = 1) (hlen : (lg_sl (.ref b :: As)).length ≤ 2) (hst : st = As.reverse ++ .ref b :: rest) (hr : (rest.map fun v => v.category).sum ≤ 8) (hdd : d' + 1 ≤ d) (kk : ∀ v σ', Qc v σ' → HT G M (pc + 3) L (v.toList ++ rest) σ' d Q) : HT G M pc L st σ d Q := ht_callV mvX10_sums h1 ivX10_sums seX10_sums npX10_sums hn (ci := 9) (by decide) rfl hK hd hlen hst hr hdd hS kk
abbrev mX10_tests : MI := (yX10_tests, cX10_tests, 3, none)
theorem mvX10_tests : MV mX10_tests := ⟨(ws_t6 (List.mem_of_getElem? (i := 161) rfl) rfl), (ws_t1 (List.mem_of_getElem? (i := 6) rfl) rfl), by decide +kernel, ⟨by decide +kernel, by decide +kernel⟩, by decide⟩
theorem npX10_tests : (parseMethodDescriptor mX10_tests.1.desc).map (fun d => d.parameters.length) = some 1 := by decide +kernel
theorem ivX10_tests : Cond.instanceMethod mX10_tests.1 ∈ WS := (ws_t6 (List.mem_of_getElem? (i := 160) rfl) rfl)
theorem seX10_tests : Cond.selects mX10_tests.1.cls mX10_tests.1 mX10_tests.1 ∈ WS := (ws_p5 (List.mem_of_getElem? (i := 7) rfl))
theorem kVX10_tests {G : GG} {M : MI} {pc : Nat} {L : List (Option Value)} {st : List Value} {σ : Hp} {d d' : Nat} {Q Qc : Option Value → Hp → Prop} {As rest : List Value} {idx : Nat} {b : Nat} (h1 : Cond.methodLink M.1.cls idx yX10_tests ∈ WS) (hd : decode M.2.1 pc = .ok (.invokevirtual idx, 3)) (hS : Sp G mX10_tests d' (.ref b :: As) σ Qc) (hK : zK σ b = 9) (hn : As.length = 1) (hlen : (lg_sl (.ref b :: As)).length ≤ 3) (hst : st = As.reverse ++ .ref b :: rest) (hr : (rest.map fun v => v.category).sum ≤ 8) (hdd : d' + 1 ≤ d) (kk : ∀ v σ', Qc v σ' → HT G M (pc + 3) L (v.toList ++ rest) σ' d Q) : HT G M pc L st σ d Q := ht_callV mvX10_tests h1 ivX10_tests seX10_tests npX10_tests hn (ci := 9) (by decide) rfl hK hd hlen hst hr hdd hS kk
abbrev mX10_between : MI := (yX10_between, cX10_between, 3, some .int)
theorem mvX10_between : MV mX10_between := ⟨(ws_t6 (List.mem_of_getElem? (i := 164) rfl) rfl), (ws_t1 (List.mem_of_getElem? (i := 6) rfl) rfl), by decide +kernel, ⟨by decide +kernel, by decide +kernel⟩, by decide⟩
theorem npX10_between : (parseMethodDescriptor mX10_between.1.desc).map (fun d => d.parameters.length) = some 3 := by decide +kernel
theorem stX10_between : Cond.static mX10_between.1 ∈ WS := (ws_t6 (List.mem_of_getElem? (i := 163) rfl) rfl)
theorem kSX10_between {G : GG} {M : MI} {pc : Nat} {L : List (Option Value)} {st : List Value} {σ : Hp} {d d' : Nat} {Q Qc : Option Value → Hp → Prop} {As rest : List Value} {idx : Nat} (h1 : Cond.methodLink M.1.cls idx yX10_between ∈ WS) (hd : decode M.2.1 pc = .ok (.invokestatic idx, 3)) (hS : Sp G mX10_between d' As σ Qc) (hn : As.length = 3) (hlen : (lg_sl As).length ≤ 3) (hst : st = As.reverse ++ rest) (hr : (rest.map fun v => v.category).sum ≤ 8) (hdd : d' + 1 ≤ d) (kk : ∀ v σ', Qc v σ' → HT G M (pc + 3) L (v.toList ++ rest) σ' d Q) : HT G M pc L st σ d Q := ht_callS mvX10_between h1 stX10_between npX10_between hn hd hlen hst hr hdd hS kk
abbrev mX10_pour : MI := (yX10_pour, cX10_pour, 3, some .int)
theorem mvX10_pour : MV mX10_pour := ⟨(ws_t6 (List.mem_of_getElem? (i := 168) rfl) rfl), (ws_t1 (List.mem_of_getElem? (i := 6) rfl) rfl), by decide +kernel, ⟨by decide +kernel, by decide +kernel⟩, by decide⟩
theorem npX10_pour : (parseMethodDescriptor mX10_pour.1.desc).map (fun d => d.parameters.length) = some 2 := by decide +kernel
theorem ivX10_pour : Cond.instanceMethod mX10_pour.1 ∈ WS := (ws_t6 (List.mem_of_getElem? (i := 166) rfl) rfl)
theorem seX10_pour : Cond.selects mX10_pour.1.cls mX10_pour.1 mX10_pour.1 ∈ WS := (ws_t6 (List.mem_of_getElem? (i := 167) rfl) rfl)
theorem kVX10_pour {G : GG} {M : MI} {pc : Nat} {L : List (Option Value)} {st : List Value} {σ : Hp} {d d' : Nat} {Q Qc : Option Value → Hp → Prop} {As rest : List Value} {idx : Nat} {b : Nat} (h1 : Cond.methodLink M.1.cls idx yX10_pour ∈ WS) (hd : decode M.2.1 pc = .ok (.invokevirtual idx, 3)) (hS : Sp G mX10_pour d' (.ref b :: As) σ Qc) (hK : zK σ b = 9) (hn : As.length = 2) (hlen : (lg_sl (.ref b :: As)).length ≤ 3) (hst : st = As.reverse ++ .ref b :: rest) (hr : (rest.map fun v => v.category).sum ≤ 8) (hdd : d' + 1 ≤ d) (kk : ∀ v σ', Qc v σ' → HT G M (pc + 3) L (v.toList ++ rest) σ' d Q) : HT G M pc L st σ d Q := ht_callV mvX10_pour h1 ivX10_pour seX10_pour npX10_pour hn (ci := 9) (by decide) rfl hK hd hlen hst hr hdd hS kk
abbrev mX10_poursIn : MI := (yX10_poursIn, cX10_poursIn, 4, some .int)
theorem mvX10_poursIn : MV mX10_poursIn := ⟨(ws_t6 (List.mem_of_getElem? (i := 172) rfl) rfl), (ws_t1 (List.mem_of_getElem? (i := 6) rfl) rfl), by decide +kernel, ⟨by decide +kernel, by decide +kernel⟩, by decide⟩
theorem npX10_poursIn : (parseMethodDescriptor mX10_poursIn.1.desc).map (fun d => d.parameters.length) = some 2 := by decide +kernel
theorem ivX10_poursIn : Cond.instanceMethod mX10_poursIn.1 ∈ WS := (ws_t6 (List.mem_of_getElem? (i := 171) rfl) rfl)
theorem seX10_poursIn : Cond.selects mX10_poursIn.1.cls mX10_poursIn.1 mX10_poursIn.1 ∈ WS := (ws_p5 (List.mem_of_getElem? (i := 8) rfl))
theorem kVX10_poursIn {G : GG} {M : MI} {pc : Nat} {L : List (Option Value)} {st : List Value} {σ : Hp} {d d' : Nat} {Q Qc : Option Value → Hp → Prop} {As rest : List Value} {idx : Nat} {b : Nat} (h1 : Cond.methodLink M.1.cls idx yX10_poursIn ∈ WS) (hd : decode M.2.1 pc = .ok (.invokevirtual idx, 3)) (hS : Sp G mX10_poursIn d' (.ref b :: As) σ Qc) (hK : zK σ b = 9) (hn : As.length = 2) (hlen : (lg_sl (.ref b :: As)).length ≤ 4) (hst : st = As.reverse ++ .ref b :: rest) (hr : (rest.map fun v => v.category).sum ≤ 8) (hdd : d' + 1 ≤ d) (kk : ∀ v σ', Qc v σ' → HT G M (pc + 3) L (v.toList ++ rest) σ' d Q) : HT G M pc L st σ d Q := ht_callV mvX10_poursIn h1 ivX10_poursIn seX10_poursIn npX10_poursIn hn (ci := 9) (by decide) rfl hK hd hlen hst hr hdd hS kk
abbrev mX10_salt : MI := (yX10_salt, cX10_salt, 3, some .boolean)
theorem mvX10_salt : MV mX10_salt := ⟨(ws_t6 (List.mem_of_getElem? (i := 177) rfl) rfl), (ws_t1 (List.mem_of_getElem? (i := 6) rfl) rfl), by decide +kernel, ⟨by decide +kernel, by decide +kernel⟩, by decide⟩
theorem npX10_salt : (parseMethodDescriptor mX10_salt.1.desc).map (fun d => d.parameters.length) = some 2 := by decide +kernel
theorem ivX10_salt : Cond.instanceMethod mX10_salt.1 ∈ WS := (ws_t6 (List.mem_of_getElem? (i := 175) rfl) rfl)
theorem seX10_salt : Cond.selects mX10_salt.1.cls mX10_salt.1 mX10_salt.1 ∈ WS := (ws_t6 (List.mem_of_getElem? (i := 176) rfl) rfl)
theorem kVX10_salt {G : GG} {M : MI} {pc : Nat} {L : List (Option Value)} {st : List Value} {σ : Hp} {d d' : Nat} {Q Qc : Option Value → Hp → Prop} {As rest : List Value} {idx : Nat} {b : Nat} (h1 : Cond.methodLink M.1.cls idx yX10_salt ∈ WS) (hd : decode M.2.1 pc = .ok (.invokevirtual idx, 3)) (hS : Sp G mX10_salt d' (.ref b :: As) σ Qc) (hK : zK σ b = 9) (hn : As.length = 2) (hlen : (lg_sl (.ref b :: As)).length ≤ 3) (hst : st = As.reverse ++ .ref b :: rest) (hr : (rest.map fun v => v.category).sum ≤ 8) (hdd : d' + 1 ≤ d) (kk : ∀ v σ', Qc v σ' → HT G M (pc + 3) L (v.toList ++ rest) σ' d Q) : HT G M pc L st σ d Q := ht_callV mvX10_salt h1 ivX10_salt seX10_salt npX10_salt hn (ci := 9) (by decide) rfl hK hd hlen hst hr hdd hS kk
abbrev mX10_isHeld : MI := (yX10_isHeld, cX10_isHeld, 2, some .boolean)
theorem mvX10_isHeld : MV mX10_isHeld := ⟨(ws_t6 (List.mem_of_getElem? (i := 181) rfl) rfl), (ws_t1 (List.mem_of_getElem? (i := 6) rfl) rfl), by decide +kernel, ⟨by decide +kernel, by decide +kernel⟩, by decide⟩
theorem npX10_isHeld : (parseMethodDescriptor mX10_isHeld.1.desc).map (fun d => d.parameters.length) = some 1 := by decide +kernel
theorem ivX10_isHeld : Cond.instanceMethod mX10_isHeld.1 ∈ WS := (ws_t6 (List.mem_of_getElem? (i := 180) rfl) rfl)
theorem seX10_isHeld : Cond.selects mX10_isHeld.1.cls mX10_isHeld.1 mX10_isHeld.1 ∈ WS := (ws_p5 (List.mem_of_getElem? (i := 9) rfl))
theorem kVX10_isHeld {G : GG} {M : MI} {pc : Nat} {L : List (Option Value)} {st : List Value} {σ : Hp} {d d' : Nat} {Q Qc : Option Value → Hp → Prop} {As rest : List Value} {idx : Nat} {b : Nat} (h1 : Cond.methodLink M.1.cls idx yX10_isHeld ∈ WS) (hd : decode M.2.1 pc = .ok (.invokevirtual idx, 3)) (hS : Sp G mX10_isHeld d' (.ref b :: As) σ Qc) (hK : zK σ b = 9) (hn : As.length = 1) (hlen : (lg_sl (.ref b :: As)).length ≤ 2) (hst : st = As.reverse ++ .ref b :: rest) (hr : (rest.map fun v => v.category).sum ≤ 8) (hdd : d' + 1 ≤ d) (kk : ∀ v σ', Qc v σ' → HT G M (pc + 3) L (v.toList ++ rest) σ' d Q) : HT G M pc L st σ d Q := ht_callV mvX10_isHeld h1 ivX10_isHeld seX10_isHeld npX10_isHeld hn (ci := 9) (by decide) rfl hK hd hlen hst hr hdd hS kk
abbrev mX10_leads : MI := (yX10_leads, cX10_leads, 3, some .int)
theorem mvX10_leads : MV mX10_leads := ⟨(ws_t6 (List.mem_of_getElem? (i := 185) rfl) rfl), (ws_t1 (List.mem_of_getElem? (i := 6) rfl) rfl), by decide +kernel, ⟨by decide +kernel, by decide +kernel⟩, by decide⟩
theorem npX10_leads : (parseMethodDescriptor mX10_leads.1.desc).map (fun d => d.parameters.length) = some 2 := by decide +kernel
theorem ivX10_leads : Cond.instanceMethod mX10_leads.1 ∈ WS := (ws_t6 (List.mem_of_getElem? (i := 184) rfl) rfl)
theorem seX10_leads : Cond.selects mX10_leads.1.cls mX10_leads.1 mX10_leads.1 ∈ WS := (ws_p5 (List.mem_of_getElem? (i := 10) rfl))
theorem kVX10_leads {G : GG} {M : MI} {pc : Nat} {L : List (Option Value)} {st : List Value} {σ : Hp} {d d' : Nat} {Q Qc : Option Value → Hp → Prop} {As rest : List Value} {idx : Nat} {b : Nat} (h1 : Cond.methodLink M.1.cls idx yX10_leads ∈ WS) (hd : decode M.2.1 pc = .ok (.invokevirtual idx, 3)) (hS : Sp G mX10_leads d' (.ref b :: As) σ Qc) (hK : zK σ b = 9) (hn : As.length = 2) (hlen : (lg_sl (.ref b :: As)).length ≤ 3) (hst : st = As.reverse ++ .ref b :: rest) (hr : (rest.map fun v => v.category).sum ≤ 8) (hdd : d' + 1 ≤ d) (kk : ∀ v σ', Qc v σ' → HT G M (pc + 3) L (v.toList ++ rest) σ' d Q) : HT G M pc L st σ d Q := ht_callV mvX10_leads h1 ivX10_leads seX10_leads npX10_leads hn (ci := 9) (by decide) rfl hK hd hlen hst hr hdd hS kk
abbrev mX10_stove : MI := (yX10_stove, cX10_stove, 3, some .boolean)
theorem mvX10_stove : MV mX10_stove := ⟨(ws_t6 (List.mem_of_getElem? (i := 189) rfl) rfl), (ws_t1 (List.mem_of_getElem? (i := 6) rfl) rfl), by decide +kernel, ⟨by decide +kernel, by decide +kernel⟩, by decide⟩
theorem npX10_stove : (parseMethodDescriptor mX10_stove.1.desc).map (fun d => d.parameters.length) = some 2 := by decide +kernel
theorem ivX10_stove : Cond.instanceMethod mX10_stove.1 ∈ WS := (ws_t6 (List.mem_of_getElem? (i := 187) rfl) rfl)
theorem seX10_stove : Cond.selects mX10_stove.1.cls mX10_stove.1 mX10_stove.1 ∈ WS := (ws_t6 (List.mem_of_getElem? (i := 188) rfl) rfl)
theorem kVX10_stove {G : GG} {M : MI} {pc : Nat} {L : List (Option Value)} {st : List Value} {σ : Hp} {d d' : Nat} {Q Qc : Option Value → Hp → Prop} {As rest : List Value} {idx : Nat} {b : Nat} (h1 : Cond.methodLink M.1.cls idx yX10_stove ∈ WS) (hd : decode M.2.1 pc = .ok (.invokevirtual idx, 3)) (hS : Sp G mX10_stove d' (.ref b :: As) σ Qc) (hK : zK σ b = 9) (hn : As.length = 2) (hlen : (lg_sl (.ref b :: As)).length ≤ 3) (hst : st = As.reverse ++ .ref b :: rest) (hr : (rest.map fun v => v.category).sum ≤ 8) (hdd : d' + 1 ≤ d) (kk : ∀ v σ', Qc v σ' → HT G M (pc + 3) L (v.toList ++ rest) σ' d Q) : HT G M pc L st σ d Q := ht_callV mvX10_stove h1 ivX10_stove seX10_stove npX10_stove hn (ci := 9) (by decide) rfl hK hd hlen hst hr hdd hS kk
abbrev mX10_pardon : MI := (yX10_pardon, cX10_pardon, 2, some .boolean)
theorem mvX10_pardon : MV mX10_pardon := ⟨(ws_t6 (List.mem_of_getElem? (i := 193) rfl) rfl), (ws_t1 (List.mem_of_getElem? (i := 6) rfl) rfl), by decide +kernel, ⟨by decide +kernel, by decide +kernel⟩, by decide⟩
theorem npX10_pardon : (parseMethodDescriptor mX10_pardon.1.desc).map (fun d => d.parameters.length) = some 1 := by decide +kernel
theorem ivX10_pardon : Cond.instanceMethod mX10_pardon.1 ∈ WS := (ws_t6 (List.mem_of_getElem? (i := 191) rfl) rfl)
theorem seX10_pardon : Cond.selects mX10_pardon.1.cls mX10_pardon.1 mX10_pardon.1 ∈ WS := (ws_t6 (List.mem_of_getElem? (i := 192) rfl) rfl)
theorem kVX10_pardon {G : GG} {M : MI} {pc : Nat} {L : List (Option Value)} {st : List Value} {σ : Hp} {d d' : Nat} {Q Qc : Option Value → Hp → Prop} {As rest : List Value} {idx : Nat} {b : Nat} (h1 : Cond.methodLink M.1.cls idx yX10_pardon ∈ WS) (hd : decode M.2.1 pc = .ok (.invokevirtual idx, 3)) (hS : Sp G mX10_pardon d' (.ref b :: As) σ Qc) (hK : zK σ b = 9) (hn : As.length = 1) (hlen : (lg_sl (.ref b :: As)).length ≤ 2) (hst : st = As.reverse ++ .ref b :: rest) (hr : (rest.map fun v => v.category).sum ≤ 8) (hdd : d' + 1 ≤ d) (kk : ∀ v σ', Qc v σ' → HT G M (pc + 3) L (v.toList ++ rest) σ' d Q) : HT G M pc L st σ d Q := ht_callV mvX10_pardon h1 ivX10_pardon seX10_pardon npX10_pardon hn (ci := 9) (by decide) rfl hK hd hlen hst hr hdd hS kk
abbrev mX10_hours : MI := (yX10_hours, cX10_hours, 3, some .int)
theorem mvX10_hours : MV mX10_hours := ⟨(ws_t6 (List.mem_of_getElem? (i := 197) rfl) rfl), (ws_t1 (List.mem_of_getElem? (i := 6) rfl) rfl), by decide +kernel, ⟨by decide +kernel, by decide +kernel⟩, by decide⟩
theorem npX10_hours : (parseMethodDescriptor mX10_hours.1.desc).map (fun d => d.parameters.length) = some 1 := by decide +kernel
theorem ivX10_hours : Cond.instanceMethod mX10_hours.1 ∈ WS := (ws_t6 (List.mem_of_getElem? (i := 195) rfl) rfl)
theorem seX10_hours : Cond.selects mX10_hours.1.cls mX10_hours.1 mX10_hours.1 ∈ WS := (ws_t6 (List.mem_of_getElem? (i := 196) rfl) rfl)
theorem kVX10_hours {G : GG} {M : MI} {pc : Nat} {L : List (Option Value)} {st : List Value} {σ : Hp} {d d' : Nat} {Q Qc : Option Value → Hp → Prop} {As rest : List Value} {idx : Nat} {b : Nat} (h1 : Cond.methodLink M.1.cls idx yX10_hours ∈ WS) (hd : decode M.2.1 pc = .ok (.invokevirtual idx, 3)) (hS : Sp G mX10_hours d' (.ref b :: As) σ Qc) (hK : zK σ b = 9) (hn : As.length = 1) (hlen : (lg_sl (.ref b :: As)).length ≤ 3) (hst : st = As.reverse ++ .ref b :: rest) (hr : (rest.map fun v => v.category).sum ≤ 8) (hdd : d' + 1 ≤ d) (kk : ∀ v σ', Qc v σ' → HT G M (pc + 3) L (v.toList ++ rest) σ' d Q) : HT G M pc L st σ d Q := ht_callV mvX10_hours h1 ivX10_hours seX10_hours npX10_hours hn (ci := 9) (by decide) rfl hK hd hlen hst hr hdd hS kk
abbrev mX10_passes : MI := (yX10_passes, cX10_passes, 3, none)
theorem mvX10_passes : MV mX10_passes := ⟨(ws_t6 (List.mem_of_getElem? (i := 201) rfl) rfl), (ws_t1 (List.mem_of_getElem? (i := 6) rfl) rfl), by decide +kernel, ⟨by decide +kernel, by decide +kernel⟩, by decide⟩
theorem npX10_passes : (parseMethodDescriptor mX10_passes.1.desc).map (fun d => d.parameters.length) = some 1 := by decide +kernel
theorem ivX10_passes : Cond.instanceMethod mX10_passes.1 ∈ WS := (ws_t6 (List.mem_of_getElem? (i := 200) rfl) rfl)
theorem seX10_passes : Cond.selects mX10_passes.1.cls mX10_passes.1 mX10_passes.1 ∈ WS := (ws_p5 (List.mem_of_getElem? (i := 11) rfl))
theorem kVX10_passes {G : GG} {M : MI} {pc : Nat} {L : List (Option Value)} {st : List Value} {σ : Hp} {d d' : Nat} {Q Qc : Option Value → Hp → Prop} {As rest : List Value} {idx : Nat} {b : Nat} (h1 : Cond.methodLink M.1.cls idx yX10_passes ∈ WS) (hd : decode M.2.1 pc = .ok (.invokevirtual idx, 3)) (hS : Sp G mX10_passes d' (.ref b :: As) σ Qc) (hK : zK σ b = 9) (hn : As.length = 1) (hlen : (lg_sl (.ref b :: As)).length ≤ 3) (hst : st = As.reverse ++ .ref b :: rest) (hr : (rest.map fun v => v.category).sum ≤ 8) (hdd : d' + 1 ≤ d) (kk : ∀ v σ', Qc v σ' → HT G M (pc + 3) L (v.toList ++ rest) σ' d Q) : HT G M pc L st σ d Q := ht_callV mvX10_passes h1 ivX10_passes seX10_passes npX10_passes hn (ci := 9) (by decide) rfl hK hd hlen hst hr hdd hS kk
abbrev mX10_frosts : MI := (yX10_frosts, cX10_frosts, 6, none)
theorem mvX10_frosts : MV mX10_frosts := ⟨(ws_t6 (List.mem_of_getElem? (i := 205) rfl) rfl), (ws_t1 (List.mem_of_getElem? (i := 6) rfl) rfl), by decide +kernel, ⟨by decide +kernel, by decide +kernel⟩, by decide⟩
theorem npX10_frosts : (parseMethodDescriptor mX10_frosts.1.desc).map (fun d => d.parameters.length) = some 1 := by decide +kernel
theorem ivX10_frosts : Cond.instanceMethod mX10_frosts.1 ∈ WS := (ws_t6 (List.mem_of_getElem? (i := 204) rfl) rfl)
theorem seX10_frosts : Cond.selects mX10_frosts.1.cls mX10_frosts.1 mX10_frosts.1 ∈ WS := (ws_p5 (List.mem_of_getElem? (i := 12) rfl))
theorem kVX10_frosts {G : GG} {M : MI} {pc : Nat} {L : List (Option Value)} {st : List Value} {σ : Hp} {d d' : Nat} {Q Qc : Option Value → Hp → Prop} {As rest : List Value} {idx : Nat} {b : Nat} (h1 : Cond.methodLink M.1.cls idx yX10_frosts ∈ WS) (hd : decode M.2.1 pc = .ok (.invokevirtual idx, 3)) (hS : Sp G mX10_frosts d' (.ref b :: As) σ Qc) (hK : zK σ b = 9) (hn : As.length = 1) (hlen : (lg_sl (.ref b :: As)).length ≤ 6) (hst : st = As.reverse ++ .ref b :: rest) (hr : (rest.map fun v => v.category).sum ≤ 8) (hdd : d' + 1 ≤ d) (kk : ∀ v σ', Qc v σ' → HT G M (pc + 3) L (v.toList ++ rest) σ' d Q) : HT G M pc L st σ d Q := ht_callV mvX10_frosts h1 ivX10_frosts seX10_frosts npX10_frosts hn (ci := 9) (by decide) rfl hK hd hlen hst hr hdd hS kk
abbrev mX10_inAndBy : MI := (yX10_inAndBy, cX10_inAndBy, 3, some .int)
theorem mvX10_inAndBy : MV mX10_inAndBy := ⟨(ws_t6 (List.mem_of_getElem? (i := 209) rfl) rfl), (ws_t1 (List.mem_of_getElem? (i := 6) rfl) rfl), by decide +kernel, ⟨by decide +kernel, by decide +kernel⟩, by decide⟩
theorem npX10_inAndBy : (parseMethodDescriptor mX10_inAndBy.1.desc).map (fun d => d.parameters.length) = some 1 := by decide +kernel
theorem ivX10_inAndBy : Cond.instanceMethod mX10_inAndBy.1 ∈ WS := (ws_t6 (List.mem_of_getElem? (i := 208) rfl) rfl)
theorem seX10_inAndBy : Cond.selects mX10_inAndBy.1.cls mX10_inAndBy.1 mX10_inAndBy.1 ∈ WS := (ws_p5 (List.mem_of_getElem? (i := 13) rfl))
theorem kVX10_inAndBy {G : GG} {M : MI} {pc : Nat} {L : List (Option Value)} {st : List Value} {σ : Hp} {d d' : Nat} {Q Qc : Option Value → Hp → Prop} {As rest : List Value} {idx : Nat} {b : Nat} (h1 : Cond.methodLink M.1.cls idx yX10_inAndBy ∈ WS) (hd : decode M.2.1 pc = .ok (.invokevirtual idx, 3)) (hS : Sp G mX10_inAndBy d' (.ref b :: As) σ Qc) (hK : zK σ b = 9) (hn : As.length = 1) (hlen : (lg_sl (.ref b :: As)).length ≤ 3) (hst : st = As.reverse ++ .ref b :: rest) (hr : (rest.map fun v => v.category).sum ≤ 8) (hdd : d' + 1 ≤ d) (kk : ∀ v σ', Qc v σ' → HT G M (pc + 3) L (v.toList ++ rest) σ' d Q) : HT G M pc L st σ d Q := ht_callV mvX10_inAndBy h1 ivX10_inAndBy seX10_inAndBy npX10_inAndBy hn (ci := 9) (by decide) rfl hK hd hlen hst hr hdd hS kk
abbrev mX10_bits : MI := (yX10_bits, cX10_bits, 3, some .int)
theorem mvX10_bits : MV mX10_bits := ⟨(ws_t6 (List.mem_of_getElem? (i := 212) rfl) rfl), (ws_t1 (List.mem_of_getElem? (i := 6) rfl) rfl), by decide +kernel, ⟨by decide +kernel, by decide +kernel⟩, by decide⟩
theorem npX10_bits : (parseMethodDescriptor mX10_bits.1.desc).map (fun d => d.parameters.length) = some 1 := by decide +kernel
theorem stX10_bits : Cond.static mX10_bits.1 ∈ WS := (ws_t6 (List.mem_of_getElem? (i := 211) rfl) rfl)
theorem kSX10_bits {G : GG} {M : MI} {pc : Nat} {L : List (Option Value)} {st : List Value} {σ : Hp} {d d' : Nat} {Q Qc : Option Value → Hp → Prop} {As rest : List Value} {idx : Nat} (h1 : Cond.methodLink M.1.cls idx yX10_bits ∈ WS) (hd : decode M.2.1 pc = .ok (.invokestatic idx, 3)) (hS : Sp G mX10_bits d' As σ Qc) (hn : As.length = 1) (hlen : (lg_sl As).length ≤ 3) (hst : st = As.reverse ++ rest) (hr : (rest.map fun v => v.category).sum ≤ 8) (hdd : d' + 1 ≤ d) (kk : ∀ v σ', Qc v σ' → HT G M (pc + 3) L (v.toList ++ rest) σ' d Q) : HT G M pc L st σ d Q := ht_callS mvX10_bits h1 stX10_bits npX10_bits hn hd hlen hst hr hdd hS kk
abbrev mX10_freezes : MI := (yX10_freezes, cX10_freezes, 7, some .int)
theorem mvX10_freezes : MV mX10_freezes := ⟨(ws_t6 (List.mem_of_getElem? (i := 216) rfl) rfl), (ws_t1 (List.mem_of_getElem? (i := 6) rfl) rfl), by decide +kernel, ⟨by decide +kernel, by decide +kernel⟩, by decide⟩
theorem npX10_freezes : (parseMethodDescriptor mX10_freezes.1.desc).map (fun d => d.parameters.length) = some 6 := by decide +kernel
theorem ivX10_freezes : Cond.instanceMethod mX10_freezes.1 ∈ WS := (ws_t6 (List.mem_of_getElem? (i := 215) rfl) rfl)
theorem seX10_freezes : Cond.selects mX10_freezes.1.cls mX10_freezes.1 mX10_freezes.1 ∈ WS := (ws_p5 (List.mem_of_getElem? (i := 14) rfl))
theorem kVX10_freezes {G : GG} {M : MI} {pc : Nat} {L : List (Option Value)} {st : List Value} {σ : Hp} {d d' : Nat} {Q Qc : Option Value → Hp → Prop} {As rest : List Value} {idx : Nat} {b : Nat} (h1 : Cond.methodLink M.1.cls idx yX10_freezes ∈ WS) (hd : decode M.2.1 pc = .ok (.invokevirtual idx, 3)) (hS : Sp G mX10_freezes d' (.ref b :: As) σ Qc) (hK : zK σ b = 9) (hn : As.length = 6) (hlen : (lg_sl (.ref b :: As)).length ≤ 7) (hst : st = As.reverse ++ .ref b :: rest) (hr : (rest.map fun v => v.category).sum ≤ 8) (hdd : d' + 1 ≤ d) (kk : ∀ v σ', Qc v σ' → HT G M (pc + 3) L (v.toList ++ rest) σ' d Q) : HT G M pc L st σ d Q := ht_callV mvX10_freezes h1 ivX10_freezes seX10_freezes npX10_freezes hn (ci := 9) (by decide) rfl hK hd hlen hst hr hdd hS kk
abbrev mX10_turns : MI := (yX10_turns, cX10_turns, 5, none)
theorem mvX10_turns : MV mX10_turns := ⟨(ws_t6 (List.mem_of_getElem? (i := 220) rfl) rfl), (ws_t1 (List.mem_of_getElem? (i := 6) rfl) rfl), by decide +kernel, ⟨by decide +kernel, by decide +kernel⟩, by decide⟩
theorem npX10_turns : (parseMethodDescriptor mX10_turns.1.desc).map (fun d => d.parameters.length) = some 3 := by decide +kernel
theorem ivX10_turns : Cond.instanceMethod mX10_turns.1 ∈ WS := (ws_t6 (List.mem_of_getElem? (i := 219) rfl) rfl)
theorem seX10_turns : Cond.selects mX10_turns.1.cls mX10_turns.1 mX10_turns.1 ∈ WS := (ws_p5 (List.mem_of_getElem? (i := 15) rfl))
theorem kVX10_turns {G : GG} {M : MI} {pc : Nat} {L : List (Option Value)} {st : List Value} {σ : Hp} {d d' : Nat} {Q Qc : Option Value → Hp → Prop} {As rest : List Value} {idx : Nat} {b : Nat} (h1 : Cond.methodLink M.1.cls idx yX10_turns ∈ WS) (hd : decode M.2.1 pc = .ok (.invokevirtual idx, 3)) (hS : Sp G mX10_turns d' (.ref b :: As) σ Qc) (hK : zK σ b = 9) (hn : As.length = 3) (hlen : (lg_sl (.ref b :: As)).length ≤ 5) (hst : st = As.reverse ++ .ref b :: rest) (hr : (rest.map fun v => v.category).sum ≤ 8) (hdd : d' + 1 ≤ d) (kk : ∀ v σ', Qc v σ' → HT G M (pc + 3) L (v.toList ++ rest) σ' d Q) : HT G M pc L st σ d Q := ht_callV mvX10_turns h1 ivX10_turns seX10_turns npX10_turns hn (ci := 9) (by decide) rfl hK hd hlen hst hr hdd hS kk
abbrev mX10_walks : MI := (yX10_walks, cX10_walks, 8, none)
theorem mvX10_walks : MV mX10_walks := ⟨(ws_t6 (List.mem_of_getElem? (i := 225) rfl) rfl), (ws_t1 (List.mem_of_getElem? (i := 6) rfl) rfl), by decide +kernel, ⟨by decide +kernel, by decide +kernel⟩, by decide⟩
theorem npX10_walks : (parseMethodDescriptor mX10_walks.1.desc).map (fun d => d.parameters.length) = some 1 := by decide +kernel
theorem ivX10_walks : Cond.instanceMethod mX10_walks.1 ∈ WS := (ws_t6 (List.mem_of_getElem? (i := 224) rfl) rfl)
theorem seX10_walks : Cond.selects mX10_walks.1.cls mX10_walks.1 mX10_walks.1 ∈ WS := (ws_p6 (List.mem_of_getElem? (i := 0) rfl))
theorem kVX10_walks {G : GG} {M : MI} {pc : Nat} {L : List (Option Value)} {st : List Value} {σ : Hp} {d d' : Nat} {Q Qc : Option Value → Hp → Prop} {As rest : List Value} {idx : Nat} {b : Nat} (h1 : Cond.methodLink M.1.cls idx yX10_walks ∈ WS) (hd : decode M.2.1 pc = .ok (.invokevirtual idx, 3)) (hS : Sp G mX10_walks d' (.ref b :: As) σ Qc) (hK : zK σ b = 9) (hn : As.length = 1) (hlen : (lg_sl (.ref b :: As)).length ≤ 8) (hst : st = As.reverse ++ .ref b :: rest) (hr : (rest.map fun v => v.category).sum ≤ 8) (hdd : d' + 1 ≤ d) (kk : ∀ v σ', Qc v σ' → HT G M (pc + 3) L (v.toList ++ rest) σ' d Q) : HT G M pc L st σ d Q := ht_callV mvX10_walks h1 ivX10_walks seX10_walks npX10_walks hn (ci := 9) (by decide) rfl hK hd hlen hst hr hdd hS kk
abbrev mX10_hasGuard : MI := (yX10_hasGuard, cX10_hasGuard, 4, some .boolean)
theorem mvX10_hasGuard : MV mX10_hasGuard := ⟨(ws_t6 (List.mem_of_getElem? (i := 229) rfl) rfl), (ws_t1 (List.mem_of_getElem? (i := 6) rfl) rfl), by decide +kernel, ⟨by decide +kernel, by decide +kernel⟩, by decide⟩
theorem npX10_hasGuard : (parseMethodDescriptor mX10_hasGuard.1.desc).map (fun d => d.parameters.length) = some 2 := by decide +kernel
theorem ivX10_hasGuard : Cond.instanceMethod mX10_hasGuard.1 ∈ WS := (ws_t6 (List.mem_of_getElem? (i := 228) rfl) rfl)
theorem seX10_hasGuard : Cond.selects mX10_hasGuard.1.cls mX10_hasGuard.1 mX10_hasGuard.1 ∈ WS := (ws_p6 (List.mem_of_getElem? (i := 1) rfl))
theorem kVX10_hasGuard {G : GG} {M : MI} {pc : Nat} {L : List (Option Value)} {st : List Value} {σ : Hp} {d d' : Nat} {Q Qc : Option Value → Hp → Prop} {As rest : List Value} {idx : Nat} {b : Nat} (h1 : Cond.methodLink M.1.cls idx yX10_hasGuard ∈ WS) (hd : decode M.2.1 pc = .ok (.invokevirtual idx, 3)) (hS : Sp G mX10_hasGuard d' (.ref b :: As) σ Qc) (hK : zK σ b = 9) (hn : As.length = 2) (hlen : (lg_sl (.ref b :: As)).length ≤ 4) (hst : st = As.reverse ++ .ref b :: rest) (hr : (rest.map fun v => v.category).sum ≤ 8) (hdd : d' + 1 ≤ d) (kk : ∀ v σ', Qc v σ' → HT G M (pc + 3) L (v.toList ++ rest) σ' d Q) : HT G M pc L st σ d Q := ht_callV mvX10_hasGuard h1 ivX10_hasGuard seX10_hasGuard npX10_hasGuard hn (ci := 9) (by decide) rfl hK hd hlen hst hr hdd hS kk
abbrev mX10_farOf : MI := (yX10_farOf, cX10_farOf, 2, some .int)
theorem mvX10_farOf : MV mX10_farOf := ⟨(ws_t6 (List.mem_of_getElem? (i := 233) rfl) rfl), (ws_t1 (List.mem_of_getElem? (i := 6) rfl) rfl), by decide +kernel, ⟨by decide +kernel, by decide +kernel⟩, by decide⟩
theorem npX10_farOf : (parseMethodDescriptor mX10_farOf.1.desc).map (fun d => d.parameters.length) = some 1 := by decide +kernel
theorem ivX10_farOf : Cond.instanceMethod mX10_farOf.1 ∈ WS := (ws_t6 (List.mem_of_getElem? (i := 232) rfl) rfl)
theorem seX10_farOf : Cond.selects mX10_farOf.1.cls mX10_farOf.1 mX10_farOf.1 ∈ WS := (ws_p6 (List.mem_of_getElem? (i := 2) rfl))
theorem kVX10_farOf {G : GG} {M : MI} {pc : Nat} {L : List (Option Value)} {st : List Value} {σ : Hp} {d d' : Nat} {Q Qc : Option Value → Hp → Prop} {As rest : List Value} {idx : Nat} {b : Nat} (h1 : Cond.methodLink M.1.cls idx yX10_farOf ∈ WS) (hd : decode M.2.1 pc = .ok (.invokevirtual idx, 3)) (hS : Sp G mX10_farOf d' (.ref b :: As) σ Qc) (hK : zK σ b = 9) (hn : As.length = 1) (hlen : (lg_sl (.ref b :: As)).length ≤ 2) (hst : st = As.reverse ++ .ref b :: rest) (hr : (rest.map fun v => v.category).sum ≤ 8) (hdd : d' + 1 ≤ d) (kk : ∀ v σ', Qc v σ' → HT G M (pc + 3) L (v.toList ++ rest) σ' d Q) : HT G M pc L st σ d Q := ht_callV mvX10_farOf h1 ivX10_farOf seX10_farOf npX10_farOf hn (ci := 9) (by decide) rfl hK hd hlen hst hr hdd hS kk
abbrev mX10_soon : MI := (yX10_soon, cX10_soon, 3, some .int)
theorem mvX10_soon : MV mX10_soon := ⟨(ws_t6 (List.mem_of_getElem? (i := 237) rfl) rfl), (ws_t1 (List.mem_of_getElem? (i := 6) rfl) rfl), by decide +kernel, ⟨by decide +kernel, by decide +kernel⟩, by decide⟩
theorem npX10_soon : (parseMethodDescriptor mX10_soon.1.desc).map (fun d => d.parameters.length) = some 2 := by decide +kernel
theorem ivX10_soon : Cond.instanceMethod mX10_soon.1 ∈ WS := (ws_t6 (List.mem_of_getElem? (i := 235) rfl) rfl)
theorem seX10_soon : Cond.selects mX10_soon.1.cls mX10_soon.1 mX10_soon.1 ∈ WS := (ws_t6 (List.mem_of_getElem? (i := 236) rfl) rfl)
theorem kVX10_soon {G : GG} {M : MI} {pc : Nat} {L : List (Option Value)} {st : List Value} {σ : Hp} {d d' : Nat} {Q Qc : Option Value → Hp → Prop} {As rest : List Value} {idx : Nat} {b : Nat} (h1 : Cond.methodLink M.1.cls idx yX10_soon ∈ WS) (hd : decode M.2.1 pc = .ok (.invokevirtual idx, 3)) (hS : Sp G mX10_soon d' (.ref b :: As) σ Qc) (hK : zK σ b = 9) (hn : As.length = 2) (hlen : (lg_sl (.ref b :: As)).length ≤ 3) (hst : st = As.reverse ++ .ref b :: rest) (hr : (rest.map fun v => v.category).sum ≤ 8) (hdd : d' + 1 ≤ d) (kk : ∀ v σ', Qc v σ' → HT G M (pc + 3) L (v.toList ++ rest) σ' d Q) : HT G M pc L st σ d Q := ht_callV mvX10_soon h1 ivX10_soon seX10_soon npX10_soon hn (ci := 9) (by decide) rfl hK hd hlen hst hr hdd hS kk
abbrev mX10_isSome : MI := (yX10_isSome, cX10_isSome, 1, some .boolean)
theorem mvX10_isSome : MV mX10_isSome := ⟨(ws_t7 (List.mem_of_getElem? (i := 0) rfl) rfl), (ws_t1 (List.mem_of_getElem? (i := 6) rfl) rfl), by decide +kernel, ⟨by decide +kernel, by decide +kernel⟩, by decide⟩
theorem npX10_isSome : (parseMethodDescriptor mX10_isSome.1.desc).map (fun d => d.parameters.length) = some 1 := by decide +kernel
theorem stX10_isSome : Cond.static mX10_isSome.1 ∈ WS := (ws_t6 (List.mem_of_getElem? (i := 239) rfl) rfl)
theorem kSX10_isSome {G : GG} {M : MI} {pc : Nat} {L : List (Option Value)} {st : List Value} {σ : Hp} {d d' : Nat} {Q Qc : Option Value → Hp → Prop} {As rest : List Value} {idx : Nat} (h1 : Cond.methodLink M.1.cls idx yX10_isSome ∈ WS) (hd : decode M.2.1 pc = .ok (.invokestatic idx, 3)) (hS : Sp G mX10_isSome d' As σ Qc) (hn : As.length = 1) (hlen : (lg_sl As).length ≤ 1) (hst : st = As.reverse ++ rest) (hr : (rest.map fun v => v.category).sum ≤ 8) (hdd : d' + 1 ≤ d) (kk : ∀ v σ', Qc v σ' → HT G M (pc + 3) L (v.toList ++ rest) σ' d Q) : HT G M pc L st σ d Q := ht_callS mvX10_isSome h1 stX10_isSome npX10_isSome hn hd hlen hst hr hdd hS kk
abbrev mX10_soons : MI := (yX10_soons, cX10_soons, 4, none)
theorem mvX10_soons : MV mX10_soons := ⟨(ws_t7 (List.mem_of_getElem? (i := 4) rfl) rfl), (ws_t1 (List.mem_of_getElem? (i := 6) rfl) rfl), by decide +kernel, ⟨by decide +kernel, by decide +kernel⟩, by decide⟩
theorem npX10_soons : (parseMethodDescriptor mX10_soons.1.desc).map (fun d => d.parameters.length) = some 1 := by decide +kernel
theorem ivX10_soons : Cond.instanceMethod mX10_soons.1 ∈ WS := (ws_t7 (List.mem_of_getElem? (i := 3) rfl) rfl)
theorem seX10_soons : Cond.selects mX10_soons.1.cls mX10_soons.1 mX10_soons.1 ∈ WS := (ws_p6 (List.mem_of_getElem? (i := 3) rfl))
theorem kVX10_soons {G : GG} {M : MI} {pc : Nat} {L : List (Option Value)} {st : List Value} {σ : Hp} {d d' : Nat} {Q Qc : Option Value → Hp → Prop} {As rest : List Value} {idx : Nat} {b : Nat} (h1 : Cond.methodLink M.1.cls idx yX10_soons ∈ WS) (hd : decode M.2.1 pc = .ok (.invokevirtual idx, 3)) (hS : Sp G mX10_soons d' (.ref b :: As) σ Qc) (hK : zK σ b = 9) (hn : As.length = 1) (hlen : (lg_sl (.ref b :: As)).length ≤ 4) (hst : st = As.reverse ++ .ref b :: rest) (hr : (rest.map fun v => v.category).sum ≤ 8) (hdd : d' + 1 ≤ d) (kk : ∀ v σ', Qc v σ' → HT G M (pc + 3) L (v.toList ++ rest) σ' d Q) : HT G M pc L st σ d Q := ht_callV mvX10_soons h1 ivX10_soons seX10_soons npX10_soons hn (ci := 9) (by decide) rfl hK hd hlen hst hr hdd hS kk
abbrev mX10_copies : MI := (yX10_copies, cX10_copies, 5, none)
theorem mvX10_copies : MV mX10_copies := ⟨(ws_t7 (List.mem_of_getElem? (i := 7) rfl) rfl), (ws_t1 (List.mem_of_getElem? (i := 6) rfl) rfl), by decide +kernel, ⟨by decide +kernel, by decide +kernel⟩, by decide⟩
theorem npX10_copies : (parseMethodDescriptor mX10_copies.1.desc).map (fun d => d.parameters.length) = some 4 := by decide +kernel
theorem stX10_copies : Cond.static mX10_copies.1 ∈ WS := (ws_t7 (List.mem_of_getElem? (i := 6) rfl) rfl)
theorem kSX10_copies {G : GG} {M : MI} {pc : Nat} {L : List (Option Value)} {st : List Value} {σ : Hp} {d d' : Nat} {Q Qc : Option Value → Hp → Prop} {As rest : List Value} {idx : Nat} (h1 : Cond.methodLink M.1.cls idx yX10_copies ∈ WS) (hd : decode M.2.1 pc = .ok (.invokestatic idx, 3)) (hS : Sp G mX10_copies d' As σ Qc) (hn : As.length = 4) (hlen : (lg_sl As).length ≤ 5) (hst : st = As.reverse ++ rest) (hr : (rest.map fun v => v.category).sum ≤ 8) (hdd : d' + 1 ≤ d) (kk : ∀ v σ', Qc v σ' → HT G M (pc + 3) L (v.toList ++ rest) σ' d Q) : HT G M pc L st σ d Q := ht_callS mvX10_copies h1 stX10_copies npX10_copies hn hd hlen hst hr hdd hS kk
abbrev mX10_needs : MI := (yX10_needs, cX10_needs, 5, some .int)
theorem mvX10_needs : MV mX10_needs := ⟨(ws_t7 (List.mem_of_getElem? (i := 11) rfl) rfl), (ws_t1 (List.mem_of_getElem? (i := 6) rfl) rfl), by decide +kernel, ⟨by decide +kernel, by decide +kernel⟩, by decide⟩
theorem npX10_needs : (parseMethodDescriptor mX10_needs.1.desc).map (fun d => d.parameters.length) = some 2 := by decide +kernel
theorem ivX10_needs : Cond.instanceMethod mX10_needs.1 ∈ WS := (ws_t7 (List.mem_of_getElem? (i := 9) rfl) rfl)
theorem seX10_needs : Cond.selects mX10_needs.1.cls mX10_needs.1 mX10_needs.1 ∈ WS := (ws_t7 (List.mem_of_getElem? (i := 10) rfl) rfl)
theorem kVX10_needs {G : GG} {M : MI} {pc : Nat} {L : List (Option Value)} {st : List Value} {σ : Hp} {d d' : Nat} {Q Qc : Option Value → Hp → Prop} {As rest : List Value} {idx : Nat} {b : Nat} (h1 : Cond.methodLink M.1.cls idx yX10_needs ∈ WS) (hd : decode M.2.1 pc = .ok (.invokevirtual idx, 3)) (hS : Sp G mX10_needs d' (.ref b :: As) σ Qc) (hK : zK σ b = 9) (hn : As.length = 2) (hlen : (lg_sl (.ref b :: As)).length ≤ 5) (hst : st = As.reverse ++ .ref b :: rest) (hr : (rest.map fun v => v.category).sum ≤ 8) (hdd : d' + 1 ≤ d) (kk : ∀ v σ', Qc v σ' → HT G M (pc + 3) L (v.toList ++ rest) σ' d Q) : HT G M pc L st σ d Q := ht_callV mvX10_needs h1 ivX10_needs seX10_needs npX10_needs hn (ci := 9) (by decide) rfl hK hd hlen hst hr hdd hS kk
abbrev mX10_holds : MI := (yX10_holds, cX10_holds, 6, some .boolean)
theorem mvX10_holds : MV mX10_holds := ⟨(ws_t7 (List.mem_of_getElem? (i := 15) rfl) rfl), (ws_t1 (List.mem_of_getElem? (i := 6) rfl) rfl), by decide +kernel, ⟨by decide +kernel, by decide +kernel⟩, by decide⟩
theorem npX10_holds : (parseMethodDescriptor mX10_holds.1.desc).map (fun d => d.parameters.length) = some 3 := by decide +kernel
theorem ivX10_holds : Cond.instanceMethod mX10_holds.1 ∈ WS := (ws_t7 (List.mem_of_getElem? (i := 14) rfl) rfl)
theorem seX10_holds : Cond.selects mX10_holds.1.cls mX10_holds.1 mX10_holds.1 ∈ WS := (ws_p6 (List.mem_of_getElem? (i := 4) rfl))
theorem kVX10_holds {G : GG} {M : MI} {pc : Nat} {L : List (Option Value)} {st : List Value} {σ : Hp} {d d' : Nat} {Q Qc : Option Value → Hp → Prop} {As rest : List Value} {idx : Nat} {b : Nat} (h1 : Cond.methodLink M.1.cls idx yX10_holds ∈ WS) (hd : decode M.2.1 pc = .ok (.invokevirtual idx, 3)) (hS : Sp G mX10_holds d' (.ref b :: As) σ Qc) (hK : zK σ b = 9) (hn : As.length = 3) (hlen : (lg_sl (.ref b :: As)).length ≤ 6) (hst : st = As.reverse ++ .ref b :: rest) (hr : (rest.map fun v => v.category).sum ≤ 8) (hdd : d' + 1 ≤ d) (kk : ∀ v σ', Qc v σ' → HT G M (pc + 3) L (v.toList ++ rest) σ' d Q) : HT G M pc L st σ d Q := ht_callV mvX10_holds h1 ivX10_holds seX10_holds npX10_holds hn (ci := 9) (by decide) rfl hK hd hlen hst hr hdd hS kk
abbrev mX10_first : MI := (yX10_first, cX10_first, 3, some .int)
theorem mvX10_first : MV mX10_first := ⟨(ws_t7 (List.mem_of_getElem? (i := 19) rfl) rfl), (ws_t1 (List.mem_of_getElem? (i := 6) rfl) rfl), by decide +kernel, ⟨by decide +kernel, by decide +kernel⟩, by decide⟩
theorem npX10_first : (parseMethodDescriptor mX10_first.1.desc).map (fun d => d.parameters.length) = some 2 := by decide +kernel
theorem ivX10_first : Cond.instanceMethod mX10_first.1 ∈ WS := (ws_t7 (List.mem_of_getElem? (i := 17) rfl) rfl)
theorem seX10_first : Cond.selects mX10_first.1.cls mX10_first.1 mX10_first.1 ∈ WS := (ws_t7 (List.mem_of_getElem? (i := 18) rfl) rfl)
theorem kVX10_first {G : GG} {M : MI} {pc : Nat} {L : List (Option Value)} {st : List Value} {σ : Hp} {d d' : Nat} {Q Qc : Option Value → Hp → Prop} {As rest : List Value} {idx : Nat} {b : Nat} (h1 : Cond.methodLink M.1.cls idx yX10_first ∈ WS) (hd : decode M.2.1 pc = .ok (.invokevirtual idx, 3)) (hS : Sp G mX10_first d' (.ref b :: As) σ Qc) (hK : zK σ b = 9) (hn : As.length = 2) (hlen : (lg_sl (.ref b :: As)).length ≤ 3) (hst : st = As.reverse ++ .ref b :: rest) (hr : (rest.map fun v => v.category).sum ≤ 8) (hdd : d' + 1 ≤ d) (kk : ∀ v σ', Qc v σ' → HT G M (pc + 3) L (v.toList ++ rest) σ' d Q) : HT G M pc L st σ d Q := ht_callV mvX10_first h1 ivX10_first seX10_first npX10_first hn (ci := 9) (by decide) rfl hK hd hlen hst hr hdd hS kk
abbrev mX10_orders : MI := (yX10_orders, cX10_orders, 5, none)
theorem mvX10_orders : MV mX10_orders := ⟨(ws_t7 (List.mem_of_getElem? (i := 23) rfl) rfl), (ws_t1 (List.mem_of_getElem? (i := 6) rfl) rfl), by decide +kernel, ⟨by decide +kernel, by decide +kernel⟩, by decide⟩
theorem npX10_orders : (parseMethodDescriptor mX10_orders.1.desc).map (fun d => d.parameters.length) = some 1 := by decide +kernel
theorem ivX10_orders : Cond.instanceMethod mX10_orders.1 ∈ WS := (ws_t7 (List.mem_of_getElem? (i := 22) rfl) rfl)
theorem seX10_orders : Cond.selects mX10_orders.1.cls mX10_orders.1 mX10_orders.1 ∈ WS := (ws_p6 (List.mem_of_getElem? (i := 5) rfl))
theorem kVX10_orders {G : GG} {M : MI} {pc : Nat} {L : List (Option Value)} {st : List Value} {σ : Hp} {d d' : Nat} {Q Qc : Option Value → Hp → Prop} {As rest : List Value} {idx : Nat} {b : Nat} (h1 : Cond.methodLink M.1.cls idx yX10_orders ∈ WS) (hd : decode M.2.1 pc = .ok (.invokevirtual idx, 3)) (hS : Sp G mX10_orders d' (.ref b :: As) σ Qc) (hK : zK σ b = 9) (hn : As.length = 1) (hlen : (lg_sl (.ref b :: As)).length ≤ 5) (hst : st = As.reverse ++ .ref b :: rest) (hr : (rest.map fun v => v.category).sum ≤ 8) (hdd : d' + 1 ≤ d) (kk : ∀ v σ', Qc v σ' → HT G M (pc + 3) L (v.toList ++ rest) σ' d Q) : HT G M pc L st σ d Q := ht_callV mvX10_orders h1 ivX10_orders seX10_orders npX10_orders hn (ci := 9) (by decide) rfl hK hd hlen hst hr hdd hS kk
abbrev mX10_enough : MI := (yX10_enough, cX10_enough, 6, some .int)
theorem mvX10_enough : MV mX10_enough := ⟨(ws_t7 (List.mem_of_getElem? (i := 27) rfl) rfl), (ws_t1 (List.mem_of_getElem? (i := 6) rfl) rfl), by decide +kernel, ⟨by decide +kernel, by decide +kernel⟩, by decide⟩
theorem npX10_enough : (parseMethodDescriptor mX10_enough.1.desc).map (fun d => d.parameters.length) = some 2 := by decide +kernel
theorem ivX10_enough : Cond.instanceMethod mX10_enough.1 ∈ WS := (ws_t7 (List.mem_of_getElem? (i := 25) rfl) rfl)
theorem seX10_enough : Cond.selects mX10_enough.1.cls mX10_enough.1 mX10_enough.1 ∈ WS := (ws_t7 (List.mem_of_getElem? (i := 26) rfl) rfl)
theorem kVX10_enough {G : GG} {M : MI} {pc : Nat} {L : List (Option Value)} {st : List Value} {σ : Hp} {d d' : Nat} {Q Qc : Option Value → Hp → Prop} {As rest : List Value} {idx : Nat} {b : Nat} (h1 : Cond.methodLink M.1.cls idx yX10_enough ∈ WS) (hd : decode M.2.1 pc = .ok (.invokevirtual idx, 3)) (hS : Sp G mX10_enough d' (.ref b :: As) σ Qc) (hK : zK σ b = 9) (hn : As.length = 2) (hlen : (lg_sl (.ref b :: As)).length ≤ 6) (hst : st = As.reverse ++ .ref b :: rest) (hr : (rest.map fun v => v.category).sum ≤ 8) (hdd : d' + 1 ≤ d) (kk : ∀ v σ', Qc v σ' → HT G M (pc + 3) L (v.toList ++ rest) σ' d Q) : HT G M pc L st σ d Q := ht_callV mvX10_enough h1 ivX10_enough seX10_enough npX10_enough hn (ci := 9) (by decide) rfl hK hd hlen hst hr hdd hS kk
abbrev mX10_plan : MI := (yX10_plan, cX10_plan, 3, some .int)
theorem mvX10_plan : MV mX10_plan := ⟨(ws_t7 (List.mem_of_getElem? (i := 31) rfl) rfl), (ws_t1 (List.mem_of_getElem? (i := 6) rfl) rfl), by decide +kernel, ⟨by decide +kernel, by decide +kernel⟩, by decide⟩
theorem npX10_plan : (parseMethodDescriptor mX10_plan.1.desc).map (fun d => d.parameters.length) = some 2 := by decide +kernel
theorem ivX10_plan : Cond.instanceMethod mX10_plan.1 ∈ WS := (ws_t7 (List.mem_of_getElem? (i := 29) rfl) rfl)
theorem seX10_plan : Cond.selects mX10_plan.1.cls mX10_plan.1 mX10_plan.1 ∈ WS := (ws_t7 (List.mem_of_getElem? (i := 30) rfl) rfl)
theorem kVX10_plan {G : GG} {M : MI} {pc : Nat} {L : List (Option Value)} {st : List Value} {σ : Hp} {d d' : Nat} {Q Qc : Option Value → Hp → Prop} {As rest : List Value} {idx : Nat} {b : Nat} (h1 : Cond.methodLink M.1.cls idx yX10_plan ∈ WS) (hd : decode M.2.1 pc = .ok (.invokevirtual idx, 3)) (hS : Sp G mX10_plan d' (.ref b :: As) σ Qc) (hK : zK σ b = 9) (hn : As.length = 2) (hlen : (lg_sl (.ref b :: As)).length ≤ 3) (hst : st = As.reverse ++ .ref b :: rest) (hr : (rest.map fun v => v.category).sum ≤ 8) (hdd : d' + 1 ≤ d) (kk : ∀ v σ', Qc v σ' → HT G M (pc + 3) L (v.toList ++ rest) σ' d Q) : HT G M pc L st σ d Q := ht_callV mvX10_plan h1 ivX10_plan seX10_plan npX10_plan hn (ci := 9) (by decide) rfl hK hd hlen hst hr hdd hS kk
abbrev mX10_tries : MI := (yX10_tries, cX10_tries, 7, none)
theorem mvX10_tries : MV mX10_tries := ⟨(ws_t7 (List.mem_of_getElem? (i := 35) rfl) rfl), (ws_t1 (List.mem_of_getElem? (i := 6) rfl) rfl), by decide +kernel, ⟨by decide +kernel, by decide +kernel⟩, by decide⟩
theorem npX10_tries : (parseMethodDescriptor mX10_tries.1.desc).map (fun d => d.parameters.length) = some 4 := by decide +kernel
theorem ivX10_tries : Cond.instanceMethod mX10_tries.1 ∈ WS := (ws_t7 (List.mem_of_getElem? (i := 34) rfl) rfl)
theorem seX10_tries : Cond.selects mX10_tries.1.cls mX10_tries.1 mX10_tries.1 ∈ WS := (ws_p6 (List.mem_of_getElem? (i := 6) rfl))
theorem kVX10_tries {G : GG} {M : MI} {pc : Nat} {L : List (Option Value)} {st : List Value} {σ : Hp} {d d' : Nat} {Q Qc : Option Value → Hp → Prop} {As rest : List Value} {idx : Nat} {b : Nat} (h1 : Cond.methodLink M.1.cls idx yX10_tries ∈ WS) (hd : decode M.2.1 pc = .ok (.invokevirtual idx, 3)) (hS : Sp G mX10_tries d' (.ref b :: As) σ Qc) (hK : zK σ b = 9) (hn : As.length = 4) (hlen : (lg_sl (.ref b :: As)).length ≤ 7) (hst : st = As.reverse ++ .ref b :: rest) (hr : (rest.map fun v => v.category).sum ≤ 8) (hdd : d' + 1 ≤ d) (kk : ∀ v σ', Qc v σ' → HT G M (pc + 3) L (v.toList ++ rest) σ' d Q) : HT G M pc L st σ d Q := ht_callV mvX10_tries h1 ivX10_tries seX10_tries npX10_tries hn (ci := 9) (by decide) rfl hK hd hlen hst hr hdd hS kk
abbrev mX10_escape : MI := (yX10_escape, cX10_escape, 5, some .int)
theorem mvX10_escape : MV mX10_escape := ⟨(ws_t7 (List.mem_of_getElem? (i := 39) rfl) rfl), (ws_t1 (List.mem_of_getElem? (i := 6) rfl) rfl), by decide +kernel, ⟨by decide +kernel, by decide +kernel⟩, by decide⟩
theorem npX10_escape : (parseMethodDescriptor mX10_escape.1.desc).map (fun d => d.parameters.length) = some 2 := by decide +kernel
theorem ivX10_escape : Cond.instanceMethod mX10_escape.1 ∈ WS := (ws_t7 (List.mem_of_getElem? (i := 37) rfl) rfl)
theorem seX10_escape : Cond.selects mX10_escape.1.cls mX10_escape.1 mX10_escape.1 ∈ WS := (ws_t7 (List.mem_of_getElem? (i := 38) rfl) rfl)
theorem kVX10_escape {G : GG} {M : MI} {pc : Nat} {L : List (Option Value)} {st : List Value} {σ : Hp} {d d' : Nat} {Q Qc : Option Value → Hp → Prop} {As rest : List Value} {idx : Nat} {b : Nat} (h1 : Cond.methodLink M.1.cls idx yX10_escape ∈ WS) (hd : decode M.2.1 pc = .ok (.invokevirtual idx, 3)) (hS : Sp G mX10_escape d' (.ref b :: As) σ Qc) (hK : zK σ b = 9) (hn : As.length = 2) (hlen : (lg_sl (.ref b :: As)).length ≤ 5) (hst : st = As.reverse ++ .ref b :: rest) (hr : (rest.map fun v => v.category).sum ≤ 8) (hdd : d' + 1 ≤ d) (kk : ∀ v σ', Qc v σ' → HT G M (pc + 3) L (v.toList ++ rest) σ' d Q) : HT G M pc L st σ d Q := ht_callV mvX10_escape h1 ivX10_escape seX10_escape npX10_escape hn (ci := 9) (by decide) rfl hK hd hlen hst hr hdd hS kk
abbrev mX10_salted : MI := (yX10_salted, cX10_salted, 4, some .int)
theorem mvX10_salted : MV mX10_salted := ⟨(ws_t7 (List.mem_of_getElem? (i := 43) rfl) rfl), (ws_t1 (List.mem_of_getElem? (i := 6) rfl) rfl), by decide +kernel, ⟨by decide +kernel, by decide +kernel⟩, by decide⟩
theorem npX10_salted : (parseMethodDescriptor mX10_salted.1.desc).map (fun d => d.parameters.length) = some 1 := by decide +kernel
theorem ivX10_salted : Cond.instanceMethod mX10_salted.1 ∈ WS := (ws_t7 (List.mem_of_getElem? (i := 41) rfl) rfl)
theorem seX10_salted : Cond.selects mX10_salted.1.cls mX10_salted.1 mX10_salted.1 ∈ WS := (ws_t7 (List.mem_of_getElem? (i := 42) rfl) rfl)
theorem kVX10_salted {G : GG} {M : MI} {pc : Nat} {L : List (Option Value)} {st : List Value} {σ : Hp} {d d' : Nat} {Q Qc : Option Value → Hp → Prop} {As rest : List Value} {idx : Nat} {b : Nat} (h1 : Cond.methodLink M.1.cls idx yX10_salted ∈ WS) (hd : decode M.2.1 pc = .ok (.invokevirtual idx, 3)) (hS : Sp G mX10_salted d' (.ref b :: As) σ Qc) (hK : zK σ b = 9) (hn : As.length = 1) (hlen : (lg_sl (.ref b :: As)).length ≤ 4) (hst : st = As.reverse ++ .ref b :: rest) (hr : (rest.map fun v => v.category).sum ≤ 8) (hdd : d' + 1 ≤ d) (kk : ∀ v σ', Qc v σ' → HT G M (pc + 3) L (v.toList ++ rest) σ' d Q) : HT G M pc L st σ d Q := ht_callV mvX10_salted h1 ivX10_salted seX10_salted npX10_salted hn (ci := 9) (by decide) rfl hK hd hlen hst hr hdd hS kk
abbrev mX10_beside : MI := (yX10_beside, cX10_beside, 2, some .int)
theorem mvX10_beside : MV mX10_beside := ⟨(ws_t7 (List.mem_of_getElem? (i := 47) rfl) rfl), (ws_t1 (List.mem_of_getElem? (i := 6) rfl) rfl), by decide +kernel, ⟨by decide +kernel, by decide +kernel⟩, by decide⟩
theorem npX10_beside : (parseMethodDescriptor mX10_beside.1.desc).map (fun d => d.parameters.length) = some 1 := by decide +kernel
theorem ivX10_beside : Cond.instanceMethod mX10_beside.1 ∈ WS := (ws_t7 (List.mem_of_getElem? (i := 45) rfl) rfl)
theorem seX10_beside : Cond.selects mX10_beside.1.cls mX10_beside.1 mX10_beside.1 ∈ WS := (ws_t7 (List.mem_of_getElem? (i := 46) rfl) rfl)
theorem kVX10_beside {G : GG} {M : MI} {pc : Nat} {L : List (Option Value)} {st : List Value} {σ : Hp} {d d' : Nat} {Q Qc : Option Value → Hp → Prop} {As rest : List Value} {idx : Nat} {b : Nat} (h1 : Cond.methodLink M.1.cls idx yX10_beside ∈ WS) (hd : decode M.2.1 pc = .ok (.invokevirtual idx, 3)) (hS : Sp G mX10_beside d' (.ref b :: As) σ Qc) (hK : zK σ b = 9) (hn : As.length = 1) (hlen : (lg_sl (.ref b :: As)).length ≤ 2) (hst : st = As.reverse ++ .ref b :: rest) (hr : (rest.map fun v => v.category).sum ≤ 8) (hdd : d' + 1 ≤ d) (kk : ∀ v σ', Qc v σ' → HT G M (pc + 3) L (v.toList ++ rest) σ' d Q) : HT G M pc L st σ d Q := ht_callV mvX10_beside h1 ivX10_beside seX10_beside npX10_beside hn (ci := 9) (by decide) rfl hK hd hlen hst hr hdd hS kk
abbrev mX10_thaw : MI := (yX10_thaw, cX10_thaw, 3, some .int)
theorem mvX10_thaw : MV mX10_thaw := ⟨(ws_t7 (List.mem_of_getElem? (i := 51) rfl) rfl), (ws_t1 (List.mem_of_getElem? (i := 6) rfl) rfl), by decide +kernel, ⟨by decide +kernel, by decide +kernel⟩, by decide⟩
theorem npX10_thaw : (parseMethodDescriptor mX10_thaw.1.desc).map (fun d => d.parameters.length) = some 1 := by decide +kernel
theorem ivX10_thaw : Cond.instanceMethod mX10_thaw.1 ∈ WS := (ws_t7 (List.mem_of_getElem? (i := 49) rfl) rfl)
theorem seX10_thaw : Cond.selects mX10_thaw.1.cls mX10_thaw.1 mX10_thaw.1 ∈ WS := (ws_t7 (List.mem_of_getElem? (i := 50) rfl) rfl)
theorem kVX10_thaw {G : GG} {M : MI} {pc : Nat} {L : List (Option Value)} {st : List Value} {σ : Hp} {d d' : Nat} {Q Qc : Option Value → Hp → Prop} {As rest : List Value} {idx : Nat} {b : Nat} (h1 : Cond.methodLink M.1.cls idx yX10_thaw ∈ WS) (hd : decode M.2.1 pc = .ok (.invokevirtual idx, 3)) (hS : Sp G mX10_thaw d' (.ref b :: As) σ Qc) (hK : zK σ b = 9) (hn : As.length = 1) (hlen : (lg_sl (.ref b :: As)).length ≤ 3) (hst : st = As.reverse ++ .ref b :: rest) (hr : (rest.map fun v => v.category).sum ≤ 8) (hdd : d' + 1 ≤ d) (kk : ∀ v σ', Qc v σ' → HT G M (pc + 3) L (v.toList ++ rest) σ' d Q) : HT G M pc L st σ d Q := ht_callV mvX10_thaw h1 ivX10_thaw seX10_thaw npX10_thaw hn (ci := 9) (by decide) rfl hK hd hlen hst hr hdd hS kk
abbrev mX10_amnesty : MI := (yX10_amnesty, cX10_amnesty, 4, some .int)
theorem mvX10_amnesty : MV mX10_amnesty := ⟨(ws_t7 (List.mem_of_getElem? (i := 55) rfl) rfl), (ws_t1 (List.mem_of_getElem? (i := 6) rfl) rfl), by decide +kernel, ⟨by decide +kernel, by decide +kernel⟩, by decide⟩
theorem npX10_amnesty : (parseMethodDescriptor mX10_amnesty.1.desc).map (fun d => d.parameters.length) = some 2 := by decide +kernel
theorem ivX10_amnesty : Cond.instanceMethod mX10_amnesty.1 ∈ WS := (ws_t7 (List.mem_of_getElem? (i := 53) rfl) rfl)
theorem seX10_amnesty : Cond.selects mX10_amnesty.1.cls mX10_amnesty.1 mX10_amnesty.1 ∈ WS := (ws_t7 (List.mem_of_getElem? (i := 54) rfl) rfl)
theorem kVX10_amnesty {G : GG} {M : MI} {pc : Nat} {L : List (Option Value)} {st : List Value} {σ : Hp} {d d' : Nat} {Q Qc : Option Value → Hp → Prop} {As rest : List Value} {idx : Nat} {b : Nat} (h1 : Cond.methodLink M.1.cls idx yX10_amnesty ∈ WS) (hd : decode M.2.1 pc = .ok (.invokevirtual idx, 3)) (hS : Sp G mX10_amnesty d' (.ref b :: As) σ Qc) (hK : zK σ b = 9) (hn : As.length = 2) (hlen : (lg_sl (.ref b :: As)).length ≤ 4) (hst : st = As.reverse ++ .ref b :: rest) (hr : (rest.map fun v => v.category).sum ≤ 8) (hdd : d' + 1 ≤ d) (kk : ∀ v σ', Qc v σ' → HT G M (pc + 3) L (v.toList ++ rest) σ' d Q) : HT G M pc L st σ d Q := ht_callV mvX10_amnesty h1 ivX10_amnesty seX10_amnesty npX10_amnesty hn (ci := 9) (by decide) rfl hK hd hlen hst hr hdd hS kk
abbrev mX10_held : MI := (yX10_held, cX10_held, 3, some .int)
theorem mvX10_held : MV mX10_held := ⟨(ws_t7 (List.mem_of_getElem? (i := 59) rfl) rfl), (ws_t1 (List.mem_of_getElem? (i := 6) rfl) rfl), by decide +kernel, ⟨by decide +kernel, by decide +kernel⟩, by decide⟩
theorem npX10_held : (parseMethodDescriptor mX10_held.1.desc).map (fun d => d.parameters.length) = some 0 := by decide +kernel
theorem ivX10_held : Cond.instanceMethod mX10_held.1 ∈ WS := (ws_t7 (List.mem_of_getElem? (i := 58) rfl) rfl)
theorem seX10_held : Cond.selects mX10_held.1.cls mX10_held.1 mX10_held.1 ∈ WS := (ws_p6 (List.mem_of_getElem? (i := 7) rfl))
theorem kVX10_held {G : GG} {M : MI} {pc : Nat} {L : List (Option Value)} {st : List Value} {σ : Hp} {d d' : Nat} {Q Qc : Option Value → Hp → Prop} {As rest : List Value} {idx : Nat} {b : Nat} (h1 : Cond.methodLink M.1.cls idx yX10_held ∈ WS) (hd : decode M.2.1 pc = .ok (.invokevirtual idx, 3)) (hS : Sp G mX10_held d' (.ref b :: As) σ Qc) (hK : zK σ b = 9) (hn : As.length = 0) (hlen : (lg_sl (.ref b :: As)).length ≤ 3) (hst : st = As.reverse ++ .ref b :: rest) (hr : (rest.map fun v => v.category).sum ≤ 8) (hdd : d' + 1 ≤ d) (kk : ∀ v σ', Qc v σ' → HT G M (pc + 3) L (v.toList ++ rest) σ' d Q) : HT G M pc L st σ d Q := ht_callV mvX10_held h1 ivX10_held seX10_held npX10_held hn (ci := 9) (by decide) rfl hK hd hlen hst hr hdd hS kk
abbrev mX10_gcd : MI := (yX10_gcd, cX10_gcd, 5, some .int)
theorem mvX10_gcd : MV mX10_gcd := ⟨(ws_t7 (List.mem_of_getElem? (i := 62) rfl) rfl), (ws_t1 (List.mem_of_getElem? (i := 6) rfl) rfl), by decide +kernel, ⟨by decide +kernel, by decide +kernel⟩, by decide⟩
theorem npX10_gcd : (parseMethodDescriptor mX10_gcd.1.desc).map (fun d => d.parameters.length) = some 2 := by decide +kernel
theorem stX10_gcd : Cond.static mX10_gcd.1 ∈ WS := (ws_t7 (List.mem_of_getElem? (i := 61) rfl) rfl)
theorem kSX10_gcd {G : GG} {M : MI} {pc : Nat} {L : List (Option Value)} {st : List Value} {σ : Hp} {d d' : Nat} {Q Qc : Option Value → Hp → Prop} {As rest : List Value} {idx : Nat} (h1 : Cond.methodLink M.1.cls idx yX10_gcd ∈ WS) (hd : decode M.2.1 pc = .ok (.invokestatic idx, 3)) (hS : Sp G mX10_gcd d' As σ Qc) (hn : As.length = 2) (hlen : (lg_sl As).length ≤ 5) (hst : st = As.reverse ++ rest) (hr : (rest.map fun v => v.category).sum ≤ 8) (hdd : d' + 1 ≤ d) (kk : ∀ v σ', Qc v σ' → HT G M (pc + 3) L (v.toList ++ rest) σ' d Q) : HT G M pc L st σ d Q := ht_callS mvX10_gcd h1 stX10_gcd npX10_gcd hn hd hlen hst hr hdd hS kk
abbrev mX10_lots : MI := (yX10_lots, cX10_lots, 11, some .int)
theorem mvX10_lots : MV mX10_lots := ⟨(ws_t7 (List.mem_of_getElem? (i := 66) rfl) rfl), (ws_t1 (List.mem_of_getElem? (i := 6) rfl) rfl), by decide +kernel, ⟨by decide +kernel, by decide +kernel⟩, by decide⟩
theorem npX10_lots : (parseMethodDescriptor mX10_lots.1.desc).map (fun d => d.parameters.length) = some 4 := by decide +kernel
theorem ivX10_lots : Cond.instanceMethod mX10_lots.1 ∈ WS := (ws_t7 (List.mem_of_getElem? (i := 64) rfl) rfl)
theorem seX10_lots : Cond.selects mX10_lots.1.cls mX10_lots.1 mX10_lots.1 ∈ WS := (ws_t7 (List.mem_of_getElem? (i := 65) rfl) rfl)
theorem kVX10_lots {G : GG} {M : MI} {pc : Nat} {L : List (Option Value)} {st : List Value} {σ : Hp} {d d' : Nat} {Q Qc : Option Value → Hp → Prop} {As rest : List Value} {idx : Nat} {b : Nat} (h1 : Cond.methodLink M.1.cls idx yX10_lots ∈ WS) (hd : decode M.2.1 pc = .ok (.invokevirtual idx, 3)) (hS : Sp G mX10_lots d' (.ref b :: As) σ Qc) (hK : zK σ b = 9) (hn : As.length = 4) (hlen : (lg_sl (.ref b :: As)).length ≤ 11) (hst : st = As.reverse ++ .ref b :: rest) (hr : (rest.map fun v => v.category).sum ≤ 8) (hdd : d' + 1 ≤ d) (kk : ∀ v σ', Qc v σ' → HT G M (pc + 3) L (v.toList ++ rest) σ' d Q) : HT G M pc L st σ d Q := ht_callV mvX10_lots h1 ivX10_lots seX10_lots npX10_lots hn (ci := 9) (by decide) rfl hK hd hlen hst hr hdd hS kk
abbrev mX10_draws : MI := (yX10_draws, cX10_draws, 2, some .int)
theorem mvX10_draws : MV mX10_draws := ⟨(ws_t7 (List.mem_of_getElem? (i := 70) rfl) rfl), (ws_t1 (List.mem_of_getElem? (i := 6) rfl) rfl), by decide +kernel, ⟨by decide +kernel, by decide +kernel⟩, by decide⟩
theorem npX10_draws : (parseMethodDescriptor mX10_draws.1.desc).map (fun d => d.parameters.length) = some 1 := by decide +kernel
theorem ivX10_draws : Cond.instanceMethod mX10_draws.1 ∈ WS := (ws_t7 (List.mem_of_getElem? (i := 69) rfl) rfl)
theorem seX10_draws : Cond.selects mX10_draws.1.cls mX10_draws.1 mX10_draws.1 ∈ WS := (ws_p6 (List.mem_of_getElem? (i := 8) rfl))
theorem kVX10_draws {G : GG} {M : MI} {pc : Nat} {L : List (Option Value)} {st : List Value} {σ : Hp} {d d' : Nat} {Q Qc : Option Value → Hp → Prop} {As rest : List Value} {idx : Nat} {b : Nat} (h1 : Cond.methodLink M.1.cls idx yX10_draws ∈ WS) (hd : decode M.2.1 pc = .ok (.invokevirtual idx, 3)) (hS : Sp G mX10_draws d' (.ref b :: As) σ Qc) (hK : zK σ b = 9) (hn : As.length = 1) (hlen : (lg_sl (.ref b :: As)).length ≤ 2) (hst : st = As.reverse ++ .ref b :: rest) (hr : (rest.map fun v => v.category).sum ≤ 8) (hdd : d' + 1 ≤ d) (kk : ∀ v σ', Qc v σ' → HT G M (pc + 3) L (v.toList ++ rest) σ' d Q) : HT G M pc L st σ d Q := ht_callV mvX10_draws h1 ivX10_draws seX10_draws npX10_draws hn (ci := 9) (by decide) rfl hK hd hlen hst hr hdd hS kk
abbrev mX10_mark : MI := (yX10_mark, cX10_mark, 3, some .boolean)
theorem mvX10_mark : MV mX10_mark := ⟨(ws_t7 (List.mem_of_getElem? (i := 78) rfl) rfl), (ws_t1 (List.mem_of_getElem? (i := 6) rfl) rfl), by decide +kernel, ⟨by decide +kernel, by decide +kernel⟩, by decide⟩
theorem npX10_mark : (parseMethodDescriptor mX10_mark.1.desc).map (fun d => d.parameters.length) = some 2 := by decide +kernel
theorem ivX10_mark : Cond.instanceMethod mX10_mark.1 ∈ WS := (ws_t7 (List.mem_of_getElem? (i := 76) rfl) rfl)
theorem seX10_mark : Cond.selects mX10_mark.1.cls mX10_mark.1 mX10_mark.1 ∈ WS := (ws_t7 (List.mem_of_getElem? (i := 77) rfl) rfl)
theorem kVX10_mark {G : GG} {M : MI} {pc : Nat} {L : List (Option Value)} {st : List Value} {σ : Hp} {d d' : Nat} {Q Qc : Option Value → Hp → Prop} {As rest : List Value} {idx : Nat} {b : Nat} (h1 : Cond.methodLink M.1.cls idx yX10_mark ∈ WS) (hd : decode M.2.1 pc = .ok (.invokevirtual idx, 3)) (hS : Sp G mX10_mark d' (.ref b :: As) σ Qc) (hK : zK σ b = 9) (hn : As.length = 2) (hlen : (lg_sl (.ref b :: As)).length ≤ 3) (hst : st = As.reverse ++ .ref b :: rest) (hr : (rest.map fun v => v.category).sum ≤ 8) (hdd : d' + 1 ≤ d) (kk : ∀ v σ', Qc v σ' → HT G M (pc + 3) L (v.toList ++ rest) σ' d Q) : HT G M pc L st σ d Q := ht_callV mvX10_mark h1 ivX10_mark seX10_mark npX10_mark hn (ci := 9) (by decide) rfl hK hd hlen hst hr hdd hS kk
abbrev mX10_count : MI := (yX10_count, cX10_count, 2, some .int)
theorem mvX10_count : MV mX10_count := ⟨(ws_t7 (List.mem_of_getElem? (i := 82) rfl) rfl), (ws_t1 (List.mem_of_getElem? (i := 6) rfl) rfl), by decide +kernel, ⟨by decide +kernel, by decide +kernel⟩, by decide⟩
theorem npX10_count : (parseMethodDescriptor mX10_count.1.desc).map (fun d => d.parameters.length) = some 1 := by decide +kernel
theorem ivX10_count : Cond.instanceMethod mX10_count.1 ∈ WS := (ws_t7 (List.mem_of_getElem? (i := 80) rfl) rfl)
theorem seX10_count : Cond.selects mX10_count.1.cls mX10_count.1 mX10_count.1 ∈ WS := (ws_t7 (List.mem_of_getElem? (i := 81) rfl) rfl)
theorem kVX10_count {G : GG} {M : MI} {pc : Nat} {L : List (Option Value)} {st : List Value} {σ : Hp} {d d' : Nat} {Q Qc : Option Value → Hp → Prop} {As rest : List Value} {idx : Nat} {b : Nat} (h1 : Cond.methodLink M.1.cls idx yX10_count ∈ WS) (hd : decode M.2.1 pc = .ok (.invokevirtual idx, 3)) (hS : Sp G mX10_count d' (.ref b :: As) σ Qc) (hK : zK σ b = 9) (hn : As.length = 1) (hlen : (lg_sl (.ref b :: As)).length ≤ 2) (hst : st = As.reverse ++ .ref b :: rest) (hr : (rest.map fun v => v.category).sum ≤ 8) (hdd : d' + 1 ≤ d) (kk : ∀ v σ', Qc v σ' → HT G M (pc + 3) L (v.toList ++ rest) σ' d Q) : HT G M pc L st σ d Q := ht_callV mvX10_count h1 ivX10_count seX10_count npX10_count hn (ci := 9) (by decide) rfl hK hd hlen hst hr hdd hS kk
theorem cl_L_19 : Cond.methodLink RL 19 yX9_init ∈ WS := (ws_t1 (List.mem_of_getElem? (i := 28) rfl) rfl)
theorem cl_X9_3 : Cond.methodLink RX9 3 Lib.objectInit ∈ WS := (ws_t1 (List.mem_of_getElem? (i := 31) rfl) rfl)
theorem cl_X6_1 : Cond.methodLink RX6 1 Lib.objectInit ∈ WS := (ws_t1 (List.mem_of_getElem? (i := 39) rfl) rfl)
theorem cl_X2_3 : Cond.methodLink RX2 3 Lib.objectInit ∈ WS := (ws_t1 (List.mem_of_getElem? (i := 56) rfl) rfl)
theorem cl_X9_21 : Cond.methodLink RX9 21 yX4_init ∈ WS := (ws_t1 (List.mem_of_getElem? (i := 143) rfl) rfl)
theorem cl_X4_3 : Cond.methodLink RX4 3 Lib.objectInit ∈ WS := (ws_t1 (List.mem_of_getElem? (i := 146) rfl) rfl)
theorem cl_X3_3 : Cond.methodLink RX3 3 Lib.objectInit ∈ WS := (ws_t1 (List.mem_of_getElem? (i := 153) rfl) rfl)
theorem cl_L_25 : Cond.methodLink RL 25 yX9_feed ∈ WS := (ws_t2 (List.mem_of_getElem? (i := 1) rfl) rfl)
theorem cl_X9_51 : Cond.methodLink RX9 51 yX6_addBytes ∈ WS := (ws_t2 (List.mem_of_getElem? (i := 5) rfl) rfl)
theorem cl_L_30 : Cond.methodLink RL 30 yX9_prison ∈ WS := (ws_t2 (List.mem_of_getElem? (i := 12) rfl) rfl)
theorem cl_X9_61 : Cond.methodLink RX9 61 yX5_init ∈ WS := (ws_t2 (List.mem_of_getElem? (i := 18) rfl) rfl)
theorem cl_X5_3 : Cond.methodLink RX5 3 Lib.objectInit ∈ WS := (ws_t2 (List.mem_of_getElem? (i := 21) rfl) rfl)
theorem cl_X5_27 : Cond.methodLink RX5 27 yX7_init ∈ WS := (ws_t2 (List.mem_of_getElem? (i := 26) rfl) rfl)
theorem cl_X7_1 : Cond.methodLink RX7 1 Lib.objectInit ∈ WS := (ws_t2 (List.mem_of_getElem? (i := 29) rfl) rfl)
theorem cl_X7_20 : Cond.methodLink RX7 20 yJ9_min_7cf53 ∈ WS := (ws_t2 (List.mem_of_getElem? (i := 30) rfl) rfl)
theorem cl_X9_64 : Cond.methodLink RX9 64 yX5_readAll ∈ WS := (ws_t2 (List.mem_of_getElem? (i := 103) rfl) rfl)
theorem cl_X5_42 : Cond.methodLink RX5 42 yX7_next ∈ WS := (ws_t2 (List.mem_of_getElem? (i := 107) rfl) rfl)
theorem cl_X7_55 : Cond.methodLink RX7 55 yX7_takeWord ∈ WS := (ws_t2 (List.mem_of_getElem? (i := 112) rfl) rfl)
theorem cl_X7_62 : Cond.methodLink RX7 62 yX8_named ∈ WS := (ws_t2 (List.mem_of_getElem? (i := 117) rfl) rfl)
theorem cl_X7_66 : Cond.methodLink RX7 66 yX7_takeNumber ∈ WS := (ws_t2 (List.mem_of_getElem? (i := 122) rfl) rfl)
theorem cl_X7_71 : Cond.methodLink RX7 71 yJ0_indexOf_0f7a4 ∈ WS := (ws_t2 (List.mem_of_getElem? (i := 127) rfl) rfl)
theorem cl_J0_633 : Cond.methodLink RJ0 633 yJ0_indexOf_7cf53 ∈ WS := (ws_t2 (List.mem_of_getElem? (i := 131) rfl) rfl)
theorem cl_J0_492 : Cond.methodLink RJ0 492 yJ0_isLatin1_aae02 ∈ WS := (ws_t2 (List.mem_of_getElem? (i := 135) rfl) rfl)
theorem cl_J0_505 : Cond.methodLink RJ0 505 yJ0_length_8abf5 ∈ WS := (ws_t2 (List.mem_of_getElem? (i := 141) rfl) rfl)
theorem cl_J0_335 : Cond.methodLink RJ0 335 yJ0_coder_7d493 ∈ WS := (ws_t2 (List.mem_of_getElem? (i := 145) rfl) rfl)
theorem cl_J0_637 : Cond.methodLink RJ0 637 yJ1_indexOf_4cfef ∈ WS := (ws_t2 (List.mem_of_getElem? (i := 149) rfl) rfl)
theorem cl_J1_88 : Cond.methodLink RJ1 88 yJ1_canEncode_9a6ad ∈ WS := (ws_t2 (List.mem_of_getElem? (i := 152) rfl) rfl)
theorem cl_J1_92 : Cond.methodLink RJ1 92 yJ9_max_7cf53 ∈ WS := (ws_t2 (List.mem_of_getElem? (i := 155) rfl) rfl)
theorem cl_J1_38 : Cond.methodLink RJ1 38 yJ9_min_7cf53 ∈ WS := (ws_t2 (List.mem_of_getElem? (i := 158) rfl) rfl)
theorem cl_J1_95 : Cond.methodLink RJ1 95 yJ1_indexOfChar_4cfef ∈ WS := (ws_t2 (List.mem_of_getElem? (i := 159) rfl) rfl)
theorem cl_J0_640 : Cond.methodLink RJ0 640 yJ2_indexOf_4cfef ∈ WS := (ws_t2 (List.mem_of_getElem? (i := 162) rfl) rfl)
theorem cl_J2_224 : Cond.methodLink RJ2 224 yJ9_max_7cf53 ∈ WS := (ws_t2 (List.mem_of_getElem? (i := 165) rfl) rfl)
theorem cl_J2_183 : Cond.methodLink RJ2 183 yJ9_min_7cf53 ∈ WS := (ws_t2 (List.mem_of_getElem? (i := 166) rfl) rfl)
theorem cl_J2_228 : Cond.methodLink RJ2 228 yJ2_indexOfChar_4cfef ∈ WS := (ws_t2 (List.mem_of_getElem? (i := 168) rfl) rfl)
theorem cl_J2_96 : Cond.methodLink RJ2 96 yJ2_checkBoundsBeginEnd_d044e ∈ WS := (ws_t2 (List.mem_of_getElem? (i := 171) rfl) rfl)
theorem cl_J2_48 : Cond.methodLink RJ2 48 yJ2_length_9d52b ∈ WS := (ws_t2 (List.mem_of_getElem? (i := 174) rfl) rfl)
theorem cl_J2_241 : Cond.methodLink RJ2 241 yJ0_checkBoundsBeginEnd_23922 ∈ WS := (ws_t2 (List.mem_of_getElem? (i := 177) rfl) rfl)
theorem cl_J0_1062 : Cond.methodLink RJ0 1062 yJ3_checkFromToIndex_8c36e ∈ WS := (ws_t2 (List.mem_of_getElem? (i := 182) rfl) rfl)
theorem cl_J2_244 : Cond.methodLink RJ2 244 yJ2_indexOfCharUnsafe_4cfef ∈ WS := (ws_t2 (List.mem_of_getElem? (i := 185) rfl) rfl)
theorem cl_J2_71 : Cond.methodLink RJ2 71 yJ2_getChar_3b067 ∈ WS := (ws_t2 (List.mem_of_getElem? (i := 188) rfl) rfl)
theorem cl_J2_232 : Cond.methodLink RJ2 232 yJ2_indexOfSupplementary_4cfef ∈ WS := (ws_t2 (List.mem_of_getElem? (i := 197) rfl) rfl)
theorem cl_J2_164 : Cond.methodLink RJ2 164 yJ11_isValidCodePoint_9a6ad ∈ WS := (ws_t2 (List.mem_of_getElem? (i := 200) rfl) rfl)
theorem cl_J2_157 : Cond.methodLink RJ2 157 yJ11_highSurrogate_5068e ∈ WS := (ws_t2 (List.mem_of_getElem? (i := 203) rfl) rfl)
theorem cl_J2_161 : Cond.methodLink RJ2 161 yJ11_lowSurrogate_5068e ∈ WS := (ws_t2 (List.mem_of_getElem? (i := 207) rfl) rfl)
theorem cl_X5_50 : Cond.methodLink RX5 50 yX5_readLine ∈ WS := (ws_t2 (List.mem_of_getElem? (i := 211) rfl) rfl)
theorem cl_X5_72 : Cond.methodLink RX5 72 yX5_readFormula ∈ WS := (ws_t2 (List.mem_of_getElem? (i := 217) rfl) rfl)
theorem cl_X5_109 : Cond.methodLink RX5 109 yX5_wrong ∈ WS := (ws_t2 (List.mem_of_getElem? (i := 221) rfl) rfl)
theorem cl_X5_132 : Cond.methodLink RX5 132 yX5_readLevel ∈ WS := (ws_t2 (List.mem_of_getElem? (i := 225) rfl) rfl)
theorem cl_X5_242 : Cond.methodLink RX5 242 yX5_readPart ∈ WS := (ws_t2 (List.mem_of_getElem? (i := 229) rfl) rfl)
theorem cl_X5_238 : Cond.methodLink RX5 238 yX7_isSign ∈ WS := (ws_t2 (List.mem_of_getElem? (i := 235) rfl) rfl)
theorem cl_X5_249 : Cond.methodLink RX5 249 yX5_addStep ∈ WS := (ws_t3 (List.mem_of_getElem? (i := 0) rfl) rfl)
theorem cl_X5_269 : Cond.methodLink RX5 269 yX1_stepOf ∈ WS := (ws_t3 (List.mem_of_getElem? (i := 4) rfl) rfl)
theorem cl_X5_245 : Cond.methodLink RX5 245 yX5_operatorOf ∈ WS := (ws_t3 (List.mem_of_getElem? (i := 7) rfl) rfl)
theorem cl_X5_138 : Cond.methodLink RX5 138 yX1_init ∈ WS := (ws_t3 (List.mem_of_getElem? (i := 17) rfl) rfl)
theorem cl_X1_1 : Cond.methodLink RX1 1 Lib.objectInit ∈ WS := (ws_t3 (List.mem_of_getElem? (i := 20) rfl) rfl)
theorem cl_X1_13 : Cond.methodLink RX1 13 yJ7_copyOf_59c91 ∈ WS := (ws_t3 (List.mem_of_getElem? (i := 21) rfl) rfl)
theorem cl_J7_304 : Cond.methodLink RJ7 304 yJ9_min_7cf53 ∈ WS := (ws_t3 (List.mem_of_getElem? (i := 31) rfl) rfl)
theorem cl_X5_82 : Cond.methodLink RX5 82 yX5_readMild ∈ WS := (ws_t3 (List.mem_of_getElem? (i := 46) rfl) rfl)
theorem cl_X5_145 : Cond.methodLink RX5 145 yX5_readNumber ∈ WS := (ws_t3 (List.mem_of_getElem? (i := 50) rfl) rfl)
theorem cl_X5_88 : Cond.methodLink RX5 88 yX5_readCell ∈ WS := (ws_t3 (List.mem_of_getElem? (i := 56) rfl) rfl)
theorem cl_X5_157 : Cond.methodLink RX5 157 yX5_isNewName ∈ WS := (ws_t3 (List.mem_of_getElem? (i := 60) rfl) rfl)
theorem cl_X5_229 : Cond.methodLink RX5 229 yX7_isName ∈ WS := (ws_t3 (List.mem_of_getElem? (i := 64) rfl) rfl)
theorem cl_X5_183 : Cond.methodLink RX5 183 yX5_cellNamed ∈ WS := (ws_t3 (List.mem_of_getElem? (i := 68) rfl) rfl)
theorem cl_X5_167 : Cond.methodLink RX5 167 yX5_readWord ∈ WS := (ws_t3 (List.mem_of_getElem? (i := 74) rfl) rfl)
theorem cl_X5_94 : Cond.methodLink RX5 94 yX5_readDoor ∈ WS := (ws_t3 (List.mem_of_getElem? (i := 80) rfl) rfl)
theorem cl_X5_177 : Cond.methodLink RX5 177 yX5_isCellName ∈ WS := (ws_t3 (List.mem_of_getElem? (i := 84) rfl) rfl)
theorem cl_X5_190 : Cond.methodLink RX5 190 yX5_readOther ∈ WS := (ws_t3 (List.mem_of_getElem? (i := 90) rfl) rfl)
theorem cl_X5_100 : Cond.methodLink RX5 100 yX5_readMan ∈ WS := (ws_t3 (List.mem_of_getElem? (i := 100) rfl) rfl)
theorem cl_X5_106 : Cond.methodLink RX5 106 yX5_readGuard ∈ WS := (ws_t3 (List.mem_of_getElem? (i := 112) rfl) rfl)
theorem cl_X5_113 : Cond.methodLink RX5 113 yX5_readLineEnd ∈ WS := (ws_t3 (List.mem_of_getElem? (i := 116) rfl) rfl)
theorem cl_X5_57 : Cond.methodLink RX5 57 yX2_measureFar ∈ WS := (ws_t3 (List.mem_of_getElem? (i := 120) rfl) rfl)
theorem cl_X2_48 : Cond.methodLink RX2 48 yJ7_fill_53178 ∈ WS := (ws_t3 (List.mem_of_getElem? (i := 124) rfl) rfl)
theorem cl_X2_61 : Cond.methodLink RX2 61 yX2_measureDoor ∈ WS := (ws_t3 (List.mem_of_getElem? (i := 127) rfl) rfl)
theorem cl_X2_65 : Cond.methodLink RX2 65 yX2_farOf ∈ WS := (ws_t3 (List.mem_of_getElem? (i := 131) rfl) rfl)
theorem cl_X9_72 : Cond.methodLink RX9 72 yX4_begin ∈ WS := (ws_t3 (List.mem_of_getElem? (i := 135) rfl) rfl)
theorem cl_X4_56 : Cond.methodLink RX4 56 yX3_begin ∈ WS := (ws_t3 (List.mem_of_getElem? (i := 140) rfl) rfl)
theorem cl_L_35 : Cond.methodLink RL 35 yX9_cell ∈ WS := (ws_t3 (List.mem_of_getElem? (i := 144) rfl) rfl)
theorem cl_X9_79 : Cond.methodLink RX9 79 yX9_isBelow ∈ WS := (ws_t3 (List.mem_of_getElem? (i := 148) rfl) rfl)
theorem cl_X9_86 : Cond.methodLink RX9 86 yX4_menIn ∈ WS := (ws_t3 (List.mem_of_getElem? (i := 151) rfl) rfl)
theorem cl_X9_90 : Cond.methodLink RX9 90 yX4_guardsIn ∈ WS := (ws_t3 (List.mem_of_getElem? (i := 155) rfl) rfl)
theorem cl_X4_70 : Cond.methodLink RX4 70 yX2_guardCell ∈ WS := (ws_t3 (List.mem_of_getElem? (i := 159) rfl) rfl)
theorem cl_X2_42 : Cond.methodLink RX2 42 yJ9_floorMod_7cf53 ∈ WS := (ws_t3 (List.mem_of_getElem? (i := 163) rfl) rfl)
theorem cl_X9_94 : Cond.methodLink RX9 94 yX2_farOf ∈ WS := (ws_t3 (List.mem_of_getElem? (i := 166) rfl) rfl)
theorem cl_L_39 : Cond.methodLink RL 39 yX9_door ∈ WS := (ws_t3 (List.mem_of_getElem? (i := 167) rfl) rfl)
theorem cl_L_56 : Cond.methodLink RL 56 yX9_pour ∈ WS := (ws_t3 (List.mem_of_getElem? (i := 171) rfl) rfl)
theorem cl_X9_142 : Cond.methodLink RX9 142 yX9_isWithin ∈ WS := (ws_t3 (List.mem_of_getElem? (i := 175) rfl) rfl)
theorem cl_X9_151 : Cond.methodLink RX9 151 yX3_takeWater ∈ WS := (ws_t3 (List.mem_of_getElem? (i := 176) rfl) rfl)
theorem cl_X3_33 : Cond.methodLink RX3 33 yX3_held ∈ WS := (ws_t3 (List.mem_of_getElem? (i := 180) rfl) rfl)
theorem cl_X3_37 : Cond.methodLink RX3 37 yJ9_min_7cf53 ∈ WS := (ws_t3 (List.mem_of_getElem? (i := 184) rfl) rfl)
theorem cl_L_60 : Cond.methodLink RL 60 yX9_salt ∈ WS := (ws_t3 (List.mem_of_getElem? (i := 185) rfl) rfl)
theorem cl_X9_154 : Cond.methodLink RX9 154 yX9_isHeld ∈ WS := (ws_t3 (List.mem_of_getElem? (i := 189) rfl) rfl)
theorem cl_X9_158 : Cond.methodLink RX9 158 yX2_across ∈ WS := (ws_t3 (List.mem_of_getElem? (i := 193) rfl) rfl)
theorem cl_X9_161 : Cond.methodLink RX9 161 yX4_laySalt ∈ WS := (ws_t3 (List.mem_of_getElem? (i := 197) rfl) rfl)
theorem cl_X4_106 : Cond.methodLink RX4 106 yX4_menIn ∈ WS := (ws_t3 (List.mem_of_getElem? (i := 201) rfl) rfl)
theorem cl_L_65 : Cond.methodLink RL 65 yX9_stove ∈ WS := (ws_t3 (List.mem_of_getElem? (i := 202) rfl) rfl)
theorem cl_L_69 : Cond.methodLink RL 69 yX9_pardon ∈ WS := (ws_t3 (List.mem_of_getElem? (i := 206) rfl) rfl)
theorem cl_L_74 : Cond.methodLink RL 74 yX9_hours ∈ WS := (ws_t3 (List.mem_of_getElem? (i := 210) rfl) rfl)
theorem cl_X9_165 : Cond.methodLink RX9 165 yX4_passHour ∈ WS := (ws_t3 (List.mem_of_getElem? (i := 214) rfl) rfl)
theorem cl_X4_109 : Cond.methodLink RX4 109 yX4_degreesBehind ∈ WS := (ws_t3 (List.mem_of_getElem? (i := 218) rfl) rfl)
theorem cl_X4_85 : Cond.methodLink RX4 85 yX1_valueBy ∈ WS := (ws_t3 (List.mem_of_getElem? (i := 222) rfl) rfl)
theorem cl_X1_22 : Cond.methodLink RX1 22 yX1_factOf ∈ WS := (ws_t3 (List.mem_of_getElem? (i := 226) rfl) rfl)
theorem cl_X1_26 : Cond.methodLink RX1 26 yX1_joined ∈ WS := (ws_t3 (List.mem_of_getElem? (i := 229) rfl) rfl)
theorem cl_X4_91 : Cond.methodLink RX4 91 yX4_atMost ∈ WS := (ws_t3 (List.mem_of_getElem? (i := 232) rfl) rfl)
theorem cl_X4_140 : Cond.methodLink RX4 140 yJ9_min_7cf53 ∈ WS := (ws_t3 (List.mem_of_getElem? (i := 235) rfl) rfl)
theorem cl_X4_177 : Cond.methodLink RX4 177 yJ9_max_7cf53 ∈ WS := (ws_t3 (List.mem_of_getElem? (i := 236) rfl) rfl)
theorem cl_X4_112 : Cond.methodLink RX4 112 yX4_stoveAt ∈ WS := (ws_t3 (List.mem_of_getElem? (i := 237) rfl) rfl)
theorem cl_X4_116 : Cond.methodLink RX4 116 yX4_breathAt ∈ WS := (ws_t4 (List.mem_of_getElem? (i := 1) rfl) rfl)
theorem cl_X4_129 : Cond.methodLink RX4 129 yJ6_bitCount_0f7a4 ∈ WS := (ws_t4 (List.mem_of_getElem? (i := 5) rfl) rfl)
theorem cl_X4_134 : Cond.methodLink RX4 134 yX4_guardsIn ∈ WS := (ws_t4 (List.mem_of_getElem? (i := 11) rfl) rfl)
theorem cl_X4_119 : Cond.methodLink RX4 119 yX4_setAround ∈ WS := (ws_t4 (List.mem_of_getElem? (i := 12) rfl) rfl)
theorem cl_X4_123 : Cond.methodLink RX4 123 yX4_freeze ∈ WS := (ws_t4 (List.mem_of_getElem? (i := 16) rfl) rfl)
theorem cl_X4_145 : Cond.methodLink RX4 145 yX3_held ∈ WS := (ws_t4 (List.mem_of_getElem? (i := 20) rfl) rfl)
theorem cl_X4_157 : Cond.methodLink RX4 157 yX4_iceBehind ∈ WS := (ws_t4 (List.mem_of_getElem? (i := 21) rfl) rfl)
theorem cl_X4_161 : Cond.methodLink RX4 161 yX3_saltBehind ∈ WS := (ws_t4 (List.mem_of_getElem? (i := 25) rfl) rfl)
theorem cl_X3_27 : Cond.methodLink RX3 27 yJ9_max_7cf53 ∈ WS := (ws_t4 (List.mem_of_getElem? (i := 29) rfl) rfl)
theorem cl_X4_126 : Cond.methodLink RX4 126 yX4_letGo ∈ WS := (ws_t4 (List.mem_of_getElem? (i := 30) rfl) rfl)
theorem cl_X4_167 : Cond.methodLink RX4 167 yX2_across ∈ WS := (ws_t4 (List.mem_of_getElem? (i := 34) rfl) rfl)
theorem cl_X4_77 : Cond.methodLink RX4 77 yX3_isLoose ∈ WS := (ws_t4 (List.mem_of_getElem? (i := 35) rfl) rfl)
theorem cl_X4_170 : Cond.methodLink RX4 170 yX4_isNearer ∈ WS := (ws_t4 (List.mem_of_getElem? (i := 39) rfl) rfl)
theorem cl_X4_174 : Cond.methodLink RX4 174 yX2_farOf ∈ WS := (ws_t4 (List.mem_of_getElem? (i := 43) rfl) rfl)
theorem cl_L_78 : Cond.methodLink RL 78 yX9_soon ∈ WS := (ws_t4 (List.mem_of_getElem? (i := 44) rfl) rfl)
theorem cl_X9_172 : Cond.methodLink RX9 172 yX9_isAhead ∈ WS := (ws_t4 (List.mem_of_getElem? (i := 48) rfl) rfl)
theorem cl_X9_175 : Cond.methodLink RX9 175 yX4_copyFrom ∈ WS := (ws_t4 (List.mem_of_getElem? (i := 51) rfl) rfl)
theorem cl_X4_60 : Cond.methodLink RX4 60 yX3_copyFrom ∈ WS := (ws_t4 (List.mem_of_getElem? (i := 55) rfl) rfl)
theorem cl_X9_179 : Cond.methodLink RX9 179 yX3_isLoose ∈ WS := (ws_t4 (List.mem_of_getElem? (i := 59) rfl) rfl)
theorem cl_L_82 : Cond.methodLink RL 82 yX9_needs ∈ WS := (ws_t4 (List.mem_of_getElem? (i := 60) rfl) rfl)
theorem cl_X9_183 : Cond.methodLink RX9 183 yX9_foresee ∈ WS := (ws_t4 (List.mem_of_getElem? (i := 64) rfl) rfl)
theorem cl_X9_148 : Cond.methodLink RX9 148 yX4_degreesBehind ∈ WS := (ws_t4 (List.mem_of_getElem? (i := 68) rfl) rfl)
theorem cl_X9_241 : Cond.methodLink RX9 241 yX4_breathAt ∈ WS := (ws_t4 (List.mem_of_getElem? (i := 69) rfl) rfl)
theorem cl_X9_186 : Cond.methodLink RX9 186 yX3_held ∈ WS := (ws_t4 (List.mem_of_getElem? (i := 70) rfl) rfl)
theorem cl_X9_189 : Cond.methodLink RX9 189 yX9_isFirmWith ∈ WS := (ws_t4 (List.mem_of_getElem? (i := 71) rfl) rfl)
theorem cl_X9_244 : Cond.methodLink RX9 244 yX4_stoveAt ∈ WS := (ws_t4 (List.mem_of_getElem? (i := 75) rfl) rfl)
theorem cl_X9_247 : Cond.methodLink RX9 247 yX4_setAround ∈ WS := (ws_t4 (List.mem_of_getElem? (i := 76) rfl) rfl)
theorem cl_X9_251 : Cond.methodLink RX9 251 yX3_saltBehind ∈ WS := (ws_t4 (List.mem_of_getElem? (i := 77) rfl) rfl)
theorem cl_X9_254 : Cond.methodLink RX9 254 yX4_iceBehind ∈ WS := (ws_t4 (List.mem_of_getElem? (i := 78) rfl) rfl)
theorem cl_L_86 : Cond.methodLink RL 86 yX9_first ∈ WS := (ws_t4 (List.mem_of_getElem? (i := 79) rfl) rfl)
theorem cl_X9_192 : Cond.methodLink RX9 192 yX9_findSoonest ∈ WS := (ws_t4 (List.mem_of_getElem? (i := 83) rfl) rfl)
theorem cl_X9_229 : Cond.methodLink RX9 229 yJ7_fill_53178 ∈ WS := (ws_t4 (List.mem_of_getElem? (i := 87) rfl) rfl)
theorem cl_X9_235 : Cond.methodLink RX9 235 yX9_noteLoose ∈ WS := (ws_t4 (List.mem_of_getElem? (i := 88) rfl) rfl)
theorem cl_X9_195 : Cond.methodLink RX9 195 yX9_orderDoors ∈ WS := (ws_t4 (List.mem_of_getElem? (i := 92) rfl) rfl)
theorem cl_L_90 : Cond.methodLink RL 90 yX9_enough ∈ WS := (ws_t4 (List.mem_of_getElem? (i := 96) rfl) rfl)
theorem cl_X9_198 : Cond.methodLink RX9 198 yX4_someLoose ∈ WS := (ws_t4 (List.mem_of_getElem? (i := 100) rfl) rfl)
theorem cl_L_94 : Cond.methodLink RL 94 yX9_plan ∈ WS := (ws_t4 (List.mem_of_getElem? (i := 104) rfl) rfl)
theorem cl_X9_201 : Cond.methodLink RX9 201 yX9_weighWays ∈ WS := (ws_t4 (List.mem_of_getElem? (i := 108) rfl) rfl)
theorem cl_X9_258 : Cond.methodLink RX9 258 yX9_weighDoor ∈ WS := (ws_t4 (List.mem_of_getElem? (i := 112) rfl) rfl)
theorem cl_X9_261 : Cond.methodLink RX9 261 yX9_weightOf ∈ WS := (ws_t4 (List.mem_of_getElem? (i := 116) rfl) rfl)
theorem cl_X9_264 : Cond.methodLink RX9 264 yX9_doorWeight ∈ WS := (ws_t4 (List.mem_of_getElem? (i := 120) rfl) rfl)
theorem cl_X9_204 : Cond.methodLink RX9 204 yX9_doorOfWay ∈ WS := (ws_t4 (List.mem_of_getElem? (i := 124) rfl) rfl)
theorem cl_X9_267 : Cond.methodLink RX9 267 yX9_firstDoorOfWay ∈ WS := (ws_t4 (List.mem_of_getElem? (i := 128) rfl) rfl)
theorem cl_L_98 : Cond.methodLink RL 98 yX9_escape ∈ WS := (ws_t4 (List.mem_of_getElem? (i := 132) rfl) rfl)
theorem cl_L_102 : Cond.methodLink RL 102 yX9_salted ∈ WS := (ws_t4 (List.mem_of_getElem? (i := 136) rfl) rfl)
theorem cl_L_106 : Cond.methodLink RL 106 yX9_beside ∈ WS := (ws_t4 (List.mem_of_getElem? (i := 140) rfl) rfl)
theorem cl_L_110 : Cond.methodLink RL 110 yX9_thaw ∈ WS := (ws_t4 (List.mem_of_getElem? (i := 144) rfl) rfl)
theorem cl_L_114 : Cond.methodLink RL 114 yX9_amnesty ∈ WS := (ws_t4 (List.mem_of_getElem? (i := 148) rfl) rfl)
theorem cl_X9_213 : Cond.methodLink RX9 213 yX4_menHeld ∈ WS := (ws_t4 (List.mem_of_getElem? (i := 152) rfl) rfl)
theorem cl_L_118 : Cond.methodLink RL 118 yX9_lots ∈ WS := (ws_t4 (List.mem_of_getElem? (i := 156) rfl) rfl)
theorem cl_X9_218 : Cond.methodLink RX9 218 yX0_init ∈ WS := (ws_t4 (List.mem_of_getElem? (i := 162) rfl) rfl)
theorem cl_X0_1 : Cond.methodLink RX0 1 Lib.objectInit ∈ WS := (ws_t4 (List.mem_of_getElem? (i := 165) rfl) rfl)
theorem cl_X9_223 : Cond.methodLink RX9 223 yX0_drawBelow ∈ WS := (ws_t4 (List.mem_of_getElem? (i := 170) rfl) rfl)
theorem cl_L_123 : Cond.methodLink RL 123 yX9_mark ∈ WS := (ws_t4 (List.mem_of_getElem? (i := 178) rfl) rfl)
theorem cl_L_128 : Cond.methodLink RL 128 yX9_count ∈ WS := (ws_t4 (List.mem_of_getElem? (i := 182) rfl) rfl)
theorem cl_L_43 : Cond.methodLink RL 43 yL_man ∈ WS := (ws_t4 (List.mem_of_getElem? (i := 186) rfl) rfl)
theorem cl_L_7 : Cond.methodLink RL 7 yX9_man ∈ WS := (ws_t4 (List.mem_of_getElem? (i := 190) rfl) rfl)
theorem cl_L_52 : Cond.methodLink RL 52 yL_degrees ∈ WS := (ws_t5 (List.mem_of_getElem? (i := 20) rfl) rfl)
theorem cl_L_15 : Cond.methodLink RL 15 yX9_degrees ∈ WS := (ws_t5 (List.mem_of_getElem? (i := 23) rfl) rfl)
theorem cl_L_22 : Cond.methodLink RL 22 yX10_init ∈ WS := (ws_t5 (List.mem_of_getElem? (i := 30) rfl) rfl)
theorem cl_X10_1 : Cond.methodLink RX10 1 Lib.objectInit ∈ WS := (ws_t5 (List.mem_of_getElem? (i := 33) rfl) rfl)
theorem cl_L_49 : Cond.methodLink RL 49 yX10_thrown ∈ WS := (ws_t5 (List.mem_of_getElem? (i := 207) rfl) rfl)
theorem cl_L_29 : Cond.methodLink RL 29 yX10_feed ∈ WS := (ws_t5 (List.mem_of_getElem? (i := 211) rfl) rfl)
theorem cl_L_34 : Cond.methodLink RL 34 yX10_prison ∈ WS := (ws_t5 (List.mem_of_getElem? (i := 216) rfl) rfl)
theorem cl_X10_314 : Cond.methodLink RX10 314 yX10_readsAll ∈ WS := (ws_t5 (List.mem_of_getElem? (i := 220) rfl) rfl)
theorem cl_X10_220 : Cond.methodLink RX10 220 yX10_nextToken ∈ WS := (ws_t5 (List.mem_of_getElem? (i := 224) rfl) rfl)
theorem cl_X10_163 : Cond.methodLink RX10 163 yX10_signAt ∈ WS := (ws_t5 (List.mem_of_getElem? (i := 228) rfl) rfl)
theorem cl_X10_205 : Cond.methodLink RX10 205 yX10_isWord ∈ WS := (ws_t5 (List.mem_of_getElem? (i := 235) rfl) rfl)
theorem cl_X10_292 : Cond.methodLink RX10 292 yX10_readsLaw ∈ WS := (ws_t5 (List.mem_of_getElem? (i := 239) rfl) rfl)
theorem cl_X10_213 : Cond.methodLink RX10 213 yX10_fails ∈ WS := (ws_t6 (List.mem_of_getElem? (i := 3) rfl) rfl)
theorem cl_X10_270 : Cond.methodLink RX10 270 yX10_reads ∈ WS := (ws_t6 (List.mem_of_getElem? (i := 7) rfl) rfl)
theorem cl_X10_199 : Cond.methodLink RX10 199 yX10_fact ∈ WS := (ws_t6 (List.mem_of_getElem? (i := 11) rfl) rfl)
theorem cl_X10_209 : Cond.methodLink RX10 209 yX10_isSign ∈ WS := (ws_t6 (List.mem_of_getElem? (i := 25) rfl) rfl)
theorem cl_X10_216 : Cond.methodLink RX10 216 yX10_puts ∈ WS := (ws_t6 (List.mem_of_getElem? (i := 29) rfl) rfl)
theorem cl_X10_295 : Cond.methodLink RX10 295 yX10_readsMild ∈ WS := (ws_t6 (List.mem_of_getElem? (i := 35) rfl) rfl)
theorem cl_X10_276 : Cond.methodLink RX10 276 yX10_needsNumber ∈ WS := (ws_t6 (List.mem_of_getElem? (i := 39) rfl) rfl)
theorem cl_X10_263 : Cond.methodLink RX10 263 yX10_within ∈ WS := (ws_t6 (List.mem_of_getElem? (i := 43) rfl) rfl)
theorem cl_X10_280 : Cond.methodLink RX10 280 yX10_ends ∈ WS := (ws_t6 (List.mem_of_getElem? (i := 46) rfl) rfl)
theorem cl_X10_298 : Cond.methodLink RX10 298 yX10_readsCell ∈ WS := (ws_t6 (List.mem_of_getElem? (i := 51) rfl) rfl)
theorem cl_X10_283 : Cond.methodLink RX10 283 yX10_isNew ∈ WS := (ws_t6 (List.mem_of_getElem? (i := 55) rfl) rfl)
theorem cl_X10_256 : Cond.methodLink RX10 256 yX10_isKept ∈ WS := (ws_t6 (List.mem_of_getElem? (i := 59) rfl) rfl)
theorem cl_X10_260 : Cond.methodLink RX10 260 yX10_cellNamed ∈ WS := (ws_t6 (List.mem_of_getElem? (i := 71) rfl) rfl)
theorem cl_X10_286 : Cond.methodLink RX10 286 yX10_needsWord ∈ WS := (ws_t6 (List.mem_of_getElem? (i := 75) rfl) rfl)
theorem cl_X10_301 : Cond.methodLink RX10 301 yX10_readsDoor ∈ WS := (ws_t6 (List.mem_of_getElem? (i := 79) rfl) rfl)
theorem cl_X10_289 : Cond.methodLink RX10 289 yX10_needsCell ∈ WS := (ws_t6 (List.mem_of_getElem? (i := 83) rfl) rfl)
theorem cl_X10_304 : Cond.methodLink RX10 304 yX10_readsMan ∈ WS := (ws_t6 (List.mem_of_getElem? (i := 87) rfl) rfl)
theorem cl_X10_307 : Cond.methodLink RX10 307 yX10_readsGuard ∈ WS := (ws_t6 (List.mem_of_getElem? (i := 91) rfl) rfl)
theorem cl_X10_317 : Cond.methodLink RX10 317 yX10_lays ∈ WS := (ws_t6 (List.mem_of_getElem? (i := 95) rfl) rfl)
theorem cl_X10_310 : Cond.methodLink RX10 310 yX10_moves ∈ WS := (ws_t6 (List.mem_of_getElem? (i := 99) rfl) rfl)
theorem cl_X10_321 : Cond.methodLink RX10 321 yX10_ways ∈ WS := (ws_t6 (List.mem_of_getElem? (i := 102) rfl) rfl)
theorem cl_L_38 : Cond.methodLink RL 38 yX10_cell ∈ WS := (ws_t6 (List.mem_of_getElem? (i := 106) rfl) rfl)
theorem cl_X10_327 : Cond.methodLink RX10 327 yX10_isCell ∈ WS := (ws_t6 (List.mem_of_getElem? (i := 110) rfl) rfl)
theorem cl_X10_330 : Cond.methodLink RX10 330 yX10_menIn ∈ WS := (ws_t6 (List.mem_of_getElem? (i := 114) rfl) rfl)
theorem cl_X10_333 : Cond.methodLink RX10 333 yX10_guardsIn ∈ WS := (ws_t6 (List.mem_of_getElem? (i := 118) rfl) rfl)
theorem cl_L_42 : Cond.methodLink RL 42 yX10_door ∈ WS := (ws_t6 (List.mem_of_getElem? (i := 122) rfl) rfl)
theorem cl_X10_337 : Cond.methodLink RX10 337 yX10_isDoor ∈ WS := (ws_t6 (List.mem_of_getElem? (i := 126) rfl) rfl)
theorem cl_L_48 : Cond.methodLink RL 48 yX10_man ∈ WS := (ws_t6 (List.mem_of_getElem? (i := 130) rfl) rfl)
theorem cl_X10_324 : Cond.methodLink RX10 324 yX10_isMan ∈ WS := (ws_t6 (List.mem_of_getElem? (i := 134) rfl) rfl)
theorem cl_L_55 : Cond.methodLink RL 55 yX10_degrees ∈ WS := (ws_t6 (List.mem_of_getElem? (i := 138) rfl) rfl)
theorem cl_X10_347 : Cond.methodLink RX10 347 yX10_degreesAt ∈ WS := (ws_t6 (List.mem_of_getElem? (i := 142) rfl) rfl)
theorem cl_X10_340 : Cond.methodLink RX10 340 yX10_worked ∈ WS := (ws_t6 (List.mem_of_getElem? (i := 146) rfl) rfl)
theorem cl_X10_230 : Cond.methodLink RX10 230 yX10_opens ∈ WS := (ws_t6 (List.mem_of_getElem? (i := 150) rfl) rfl)
theorem cl_X10_227 : Cond.methodLink RX10 227 yX10_sums ∈ WS := (ws_t6 (List.mem_of_getElem? (i := 154) rfl) rfl)
theorem cl_X10_233 : Cond.methodLink RX10 233 yX10_tests ∈ WS := (ws_t6 (List.mem_of_getElem? (i := 158) rfl) rfl)
theorem cl_X10_343 : Cond.methodLink RX10 343 yX10_between ∈ WS := (ws_t6 (List.mem_of_getElem? (i := 162) rfl) rfl)
theorem cl_L_59 : Cond.methodLink RL 59 yX10_pour ∈ WS := (ws_t6 (List.mem_of_getElem? (i := 165) rfl) rfl)
theorem cl_X10_355 : Cond.methodLink RX10 355 yX10_poursIn ∈ WS := (ws_t6 (List.mem_of_getElem? (i := 169) rfl) rfl)
theorem cl_X10_350 : Cond.methodLink RX10 350 yJ9_min_7cf53 ∈ WS := (ws_t6 (List.mem_of_getElem? (i := 173) rfl) rfl)
theorem cl_L_64 : Cond.methodLink RL 64 yX10_salt ∈ WS := (ws_t6 (List.mem_of_getElem? (i := 174) rfl) rfl)
theorem cl_X10_358 : Cond.methodLink RX10 358 yX10_isHeld ∈ WS := (ws_t6 (List.mem_of_getElem? (i := 178) rfl) rfl)
theorem cl_X10_361 : Cond.methodLink RX10 361 yX10_leads ∈ WS := (ws_t6 (List.mem_of_getElem? (i := 182) rfl) rfl)
theorem cl_L_68 : Cond.methodLink RL 68 yX10_stove ∈ WS := (ws_t6 (List.mem_of_getElem? (i := 186) rfl) rfl)
theorem cl_L_73 : Cond.methodLink RL 73 yX10_pardon ∈ WS := (ws_t6 (List.mem_of_getElem? (i := 190) rfl) rfl)
theorem cl_L_77 : Cond.methodLink RL 77 yX10_hours ∈ WS := (ws_t6 (List.mem_of_getElem? (i := 194) rfl) rfl)
theorem cl_X10_393 : Cond.methodLink RX10 393 yX10_passes ∈ WS := (ws_t6 (List.mem_of_getElem? (i := 198) rfl) rfl)
theorem cl_X10_387 : Cond.methodLink RX10 387 yX10_frosts ∈ WS := (ws_t6 (List.mem_of_getElem? (i := 202) rfl) rfl)
theorem cl_X10_367 : Cond.methodLink RX10 367 yX10_inAndBy ∈ WS := (ws_t6 (List.mem_of_getElem? (i := 206) rfl) rfl)
theorem cl_X10_364 : Cond.methodLink RX10 364 yX10_bits ∈ WS := (ws_t6 (List.mem_of_getElem? (i := 210) rfl) rfl)
theorem cl_X10_370 : Cond.methodLink RX10 370 yX10_freezes ∈ WS := (ws_t6 (List.mem_of_getElem? (i := 213) rfl) rfl)
theorem cl_X10_374 : Cond.methodLink RX10 374 yX10_turns ∈ WS := (ws_t6 (List.mem_of_getElem? (i := 217) rfl) rfl)
theorem cl_X10_378 : Cond.methodLink RX10 378 yJ9_max_7cf53 ∈ WS := (ws_t6 (List.mem_of_getElem? (i := 221) rfl) rfl)
theorem cl_X10_390 : Cond.methodLink RX10 390 yX10_walks ∈ WS := (ws_t6 (List.mem_of_getElem? (i := 222) rfl) rfl)
theorem cl_X10_381 : Cond.methodLink RX10 381 yX10_hasGuard ∈ WS := (ws_t6 (List.mem_of_getElem? (i := 226) rfl) rfl)
theorem cl_X10_384 : Cond.methodLink RX10 384 yX10_farOf ∈ WS := (ws_t6 (List.mem_of_getElem? (i := 230) rfl) rfl)
theorem cl_L_81 : Cond.methodLink RL 81 yX10_soon ∈ WS := (ws_t6 (List.mem_of_getElem? (i := 234) rfl) rfl)
theorem cl_X10_400 : Cond.methodLink RX10 400 yX10_isSome ∈ WS := (ws_t6 (List.mem_of_getElem? (i := 238) rfl) rfl)
theorem cl_X10_403 : Cond.methodLink RX10 403 yX10_soons ∈ WS := (ws_t7 (List.mem_of_getElem? (i := 1) rfl) rfl)
theorem cl_X10_396 : Cond.methodLink RX10 396 yX10_copies ∈ WS := (ws_t7 (List.mem_of_getElem? (i := 5) rfl) rfl)
theorem cl_L_85 : Cond.methodLink RL 85 yX10_needs ∈ WS := (ws_t7 (List.mem_of_getElem? (i := 8) rfl) rfl)
theorem cl_X10_406 : Cond.methodLink RX10 406 yX10_holds ∈ WS := (ws_t7 (List.mem_of_getElem? (i := 12) rfl) rfl)
theorem cl_L_89 : Cond.methodLink RL 89 yX10_first ∈ WS := (ws_t7 (List.mem_of_getElem? (i := 16) rfl) rfl)
theorem cl_X10_409 : Cond.methodLink RX10 409 yX10_orders ∈ WS := (ws_t7 (List.mem_of_getElem? (i := 20) rfl) rfl)
theorem cl_L_93 : Cond.methodLink RL 93 yX10_enough ∈ WS := (ws_t7 (List.mem_of_getElem? (i := 24) rfl) rfl)
theorem cl_L_97 : Cond.methodLink RL 97 yX10_plan ∈ WS := (ws_t7 (List.mem_of_getElem? (i := 28) rfl) rfl)
theorem cl_X10_418 : Cond.methodLink RX10 418 yX10_tries ∈ WS := (ws_t7 (List.mem_of_getElem? (i := 32) rfl) rfl)
theorem cl_L_101 : Cond.methodLink RL 101 yX10_escape ∈ WS := (ws_t7 (List.mem_of_getElem? (i := 36) rfl) rfl)
theorem cl_L_105 : Cond.methodLink RL 105 yX10_salted ∈ WS := (ws_t7 (List.mem_of_getElem? (i := 40) rfl) rfl)
theorem cl_L_109 : Cond.methodLink RL 109 yX10_beside ∈ WS := (ws_t7 (List.mem_of_getElem? (i := 44) rfl) rfl)
theorem cl_L_113 : Cond.methodLink RL 113 yX10_thaw ∈ WS := (ws_t7 (List.mem_of_getElem? (i := 48) rfl) rfl)
theorem cl_L_117 : Cond.methodLink RL 117 yX10_amnesty ∈ WS := (ws_t7 (List.mem_of_getElem? (i := 52) rfl) rfl)
theorem cl_X10_422 : Cond.methodLink RX10 422 yX10_held ∈ WS := (ws_t7 (List.mem_of_getElem? (i := 56) rfl) rfl)
theorem cl_X10_425 : Cond.methodLink RX10 425 yX10_gcd ∈ WS := (ws_t7 (List.mem_of_getElem? (i := 60) rfl) rfl)
theorem cl_L_122 : Cond.methodLink RL 122 yX10_lots ∈ WS := (ws_t7 (List.mem_of_getElem? (i := 63) rfl) rfl)
theorem cl_X10_439 : Cond.methodLink RX10 439 yX10_draws ∈ WS := (ws_t7 (List.mem_of_getElem? (i := 67) rfl) rfl)
theorem cl_L_127 : Cond.methodLink RL 127 yX10_mark ∈ WS := (ws_t7 (List.mem_of_getElem? (i := 75) rfl) rfl)
theorem cl_L_131 : Cond.methodLink RL 131 yX10_count ∈ WS := (ws_t7 (List.mem_of_getElem? (i := 79) rfl) rfl)
theorem mm_X7_20 : Cond.methodLink RX7 20 Lib.Math.min.name ∈ WS := (ws_t2 (List.mem_of_getElem? (i := 30) rfl) rfl)
theorem mm_J1_92 : Cond.methodLink RJ1 92 Lib.Math.max.name ∈ WS := (ws_t2 (List.mem_of_getElem? (i := 155) rfl) rfl)
theorem mm_J1_38 : Cond.methodLink RJ1 38 Lib.Math.min.name ∈ WS := (ws_t2 (List.mem_of_getElem? (i := 158) rfl) rfl)
theorem mm_J2_224 : Cond.methodLink RJ2 224 Lib.Math.max.name ∈ WS := (ws_t2 (List.mem_of_getElem? (i := 165) rfl) rfl)
theorem mm_J2_183 : Cond.methodLink RJ2 183 Lib.Math.min.name ∈ WS := (ws_t2 (List.mem_of_getElem? (i := 166) rfl) rfl)
theorem mm_J7_304 : Cond.methodLink RJ7 304 Lib.Math.min.name ∈ WS := (ws_t3 (List.mem_of_getElem? (i := 31) rfl) rfl)
theorem ac_J7_150 : Cond.methodLink RJ7 150 arraycopyName ∈ WS := (ws_t3 (List.mem_of_getElem? (i := 32) rfl) rfl)
theorem ac_X4_45 : Cond.methodLink RX4 45 arraycopyName ∈ WS := (ws_t3 (List.mem_of_getElem? (i := 139) rfl) rfl)
theorem mm_X3_37 : Cond.methodLink RX3 37 Lib.Math.min.name ∈ WS := (ws_t3 (List.mem_of_getElem? (i := 184) rfl) rfl)
theorem mm_X4_140 : Cond.methodLink RX4 140 Lib.Math.min.name ∈ WS := (ws_t3 (List.mem_of_getElem? (i := 235) rfl) rfl)
theorem mm_X4_177 : Cond.methodLink RX4 177 Lib.Math.max.name ∈ WS := (ws_t3 (List.mem_of_getElem? (i := 236) rfl) rfl)
theorem mm_X3_27 : Cond.methodLink RX3 27 Lib.Math.max.name ∈ WS := (ws_t4 (List.mem_of_getElem? (i := 29) rfl) rfl)
theorem mm_X10_350 : Cond.methodLink RX10 350 Lib.Math.min.name ∈ WS := (ws_t6 (List.mem_of_getElem? (i := 173) rfl) rfl)
theorem mm_X10_378 : Cond.methodLink RX10 378 Lib.Math.max.name ∈ WS := (ws_t6 (List.mem_of_getElem? (i := 221) rfl) rfl)
theorem ac_nat : Cond.native arraycopyName ∈ WS := (ws_t3 (List.mem_of_getElem? (i := 34) rfl) rfl)
theorem ac_stat : Cond.static arraycopyName ∈ WS := (ws_t3 (List.mem_of_getElem? (i := 33) rfl) rfl)
theorem ac_ini : Cond.initialized "java/lang/System" ∈ WS := (ws_t1 (List.mem_of_getElem? (i := 19) rfl) rfl)
theorem mm_smin : Cond.static Lib.Math.min.name ∈ WS := (ws_t2 (List.mem_of_getElem? (i := 31) rfl) rfl)
theorem mm_cmin : Cond.code Lib.Math.min.name Lib.Math.min.code 2 (some .int) ∈ WS := (ws_t2 (List.mem_of_getElem? (i := 32) rfl) rfl)
theorem mm_smax : Cond.static Lib.Math.max.name ∈ WS := (ws_t2 (List.mem_of_getElem? (i := 156) rfl) rfl)
theorem mm_cmax : Cond.code Lib.Math.max.name Lib.Math.max.code 2 (some .int) ∈ WS := (ws_t2 (List.mem_of_getElem? (i := 157) rfl) rfl)
theorem mm_ini : Cond.initialized "java/lang/Math" ∈ WS := (ws_t1 (List.mem_of_getElem? (i := 9) rfl) rfl)
theorem ob_inst : Cond.instanceMethod Lib.objectInit ∈ WS := (ws_t1 (List.mem_of_getElem? (i := 32) rfl) rfl)
theorem ob_code : Cond.code Lib.objectInit ⟨#[0xb1]⟩ 1 none ∈ WS := (ws_t1 (List.mem_of_getElem? (i := 33) rfl) rfl)
theorem kn_L : Cond.initialized RL ∈ WS := (ws_t1 (List.mem_of_getElem? (i := 0) rfl) rfl)
theorem kn_X9 : Cond.initialized RX9 ∈ WS := (ws_t1 (List.mem_of_getElem? (i := 1) rfl) rfl)
theorem kn_X6 : Cond.initialized RX6 ∈ WS := (ws_t1 (List.mem_of_getElem? (i := 2) rfl) rfl)
theorem kn_X2 : Cond.initialized RX2 ∈ WS := (ws_t1 (List.mem_of_getElem? (i := 3) rfl) rfl)
theorem kn_X4 : Cond.initialized RX4 ∈ WS := (ws_t1 (List.mem_of_getElem? (i := 4) rfl) rfl)
theorem kn_X3 : Cond.initialized RX3 ∈ WS := (ws_t1 (List.mem_of_getElem? (i := 5) rfl) rfl)
theorem kn_X10 : Cond.initialized RX10 ∈ WS := (ws_t1 (List.mem_of_getElem? (i := 6) rfl) rfl)
theorem kn_X5 : Cond.initialized RX5 ∈ WS := (ws_t1 (List.mem_of_getElem? (i := 7) rfl) rfl)
theorem kn_X7 : Cond.initialized RX7 ∈ WS := (ws_t1 (List.mem_of_getElem? (i := 8) rfl) rfl)
theorem kn_J9 : Cond.initialized RJ9 ∈ WS := (ws_t1 (List.mem_of_getElem? (i := 9) rfl) rfl)
theorem kn_Jx29ce0 : Cond.initialized RJx29ce0 ∈ WS := (ws_t1 (List.mem_of_getElem? (i := 10) rfl) rfl)
theorem kn_X8 : Cond.initialized RX8 ∈ WS := (ws_t1 (List.mem_of_getElem? (i := 11) rfl) rfl)
theorem kn_J0 : Cond.initialized RJ0 ∈ WS := (ws_t1 (List.mem_of_getElem? (i := 12) rfl) rfl)
theorem kn_J1 : Cond.initialized RJ1 ∈ WS := (ws_t1 (List.mem_of_getElem? (i := 13) rfl) rfl)
theorem kn_J2 : Cond.initialized RJ2 ∈ WS := (ws_t1 (List.mem_of_getElem? (i := 14) rfl) rfl)
theorem kn_J3 : Cond.initialized RJ3 ∈ WS := (ws_t1 (List.mem_of_getElem? (i := 15) rfl) rfl)
theorem kn_J11 : Cond.initialized RJ11 ∈ WS := (ws_t1 (List.mem_of_getElem? (i := 16) rfl) rfl)
theorem kn_X1 : Cond.initialized RX1 ∈ WS := (ws_t1 (List.mem_of_getElem? (i := 17) rfl) rfl)
theorem kn_J7 : Cond.initialized RJ7 ∈ WS := (ws_t1 (List.mem_of_getElem? (i := 18) rfl) rfl)
theorem kn_J10 : Cond.initialized RJ10 ∈ WS := (ws_t1 (List.mem_of_getElem? (i := 19) rfl) rfl)
theorem kn_J6 : Cond.initialized RJ6 ∈ WS := (ws_t1 (List.mem_of_getElem? (i := 24) rfl) rfl)
theorem kn_X0 : Cond.initialized RX0 ∈ WS := (ws_t1 (List.mem_of_getElem? (i := 25) rfl) rfl)
theorem kk_L_8 : Cond.classLink RL 8 RX9 ∈ WS := (ws_t1 (List.mem_of_getElem? (i := 26) rfl) rfl)
theorem ki_X9 : Cond.instantiable RX9 9 ∈ WS := (ws_t1 (List.mem_of_getElem? (i := 27) rfl) rfl)
theorem kk_X9_9 : Cond.classLink RX9 9 RX6 ∈ WS := (ws_t1 (List.mem_of_getElem? (i := 34) rfl) rfl)
theorem ki_X6 : Cond.instantiable RX6 2 ∈ WS := (ws_t1 (List.mem_of_getElem? (i := 35) rfl) rfl)
theorem ka_byte : Cond.arrayClass .byte ∈ WS := (ws_t1 (List.mem_of_getElem? (i := 50) rfl) rfl)
theorem kk_X9_16 : Cond.classLink RX9 16 RX2 ∈ WS := (ws_t1 (List.mem_of_getElem? (i := 51) rfl) rfl)
theorem ki_X2 : Cond.instantiable RX2 17 ∈ WS := (ws_t1 (List.mem_of_getElem? (i := 52) rfl) rfl)
theorem ka_int : Cond.arrayClass .int ∈ WS := (ws_t1 (List.mem_of_getElem? (i := 140) rfl) rfl)
theorem kk_X9_19 : Cond.classLink RX9 19 RX4 ∈ WS := (ws_t1 (List.mem_of_getElem? (i := 141) rfl) rfl)
theorem ki_X4 : Cond.instantiable RX4 8 ∈ WS := (ws_t1 (List.mem_of_getElem? (i := 142) rfl) rfl)
theorem kk_X4_21 : Cond.classLink RX4 21 RX3 ∈ WS := (ws_t1 (List.mem_of_getElem? (i := 147) rfl) rfl)
theorem ki_X3 : Cond.instantiable RX3 5 ∈ WS := (ws_t1 (List.mem_of_getElem? (i := 149) rfl) rfl)
theorem kk_X9_59 : Cond.classLink RX9 59 RX5 ∈ WS := (ws_t2 (List.mem_of_getElem? (i := 16) rfl) rfl)
theorem ki_X5 : Cond.instantiable RX5 11 ∈ WS := (ws_t2 (List.mem_of_getElem? (i := 17) rfl) rfl)
theorem kk_X5_9 : Cond.classLink RX5 9 RX2 ∈ WS := (ws_t2 (List.mem_of_getElem? (i := 22) rfl) rfl)
theorem kk_X5_25 : Cond.classLink RX5 25 RX7 ∈ WS := (ws_t2 (List.mem_of_getElem? (i := 24) rfl) rfl)
theorem ki_X7 : Cond.instantiable RX7 9 ∈ WS := (ws_t2 (List.mem_of_getElem? (i := 25) rfl) rfl)
theorem ka_long : Cond.arrayClass .long ∈ WS := (ws_t2 (List.mem_of_getElem? (i := 67) rfl) rfl)
theorem kl_X7_77 : Cond.constantLong RX7 77 (32) ∈ WS := (ws_t2 (List.mem_of_getElem? (i := 116) rfl) rfl)
theorem kc_J2_227 : Cond.constant RJ2 227 (65536) ∈ WS := (ws_t2 (List.mem_of_getElem? (i := 167) rfl) rfl)
theorem kc_J11_110 : Cond.constant RJ11 110 (55232) ∈ WS := (ws_t2 (List.mem_of_getElem? (i := 206) rfl) rfl)
theorem kc_J11_76 : Cond.constant RJ11 76 (56320) ∈ WS := (ws_t2 (List.mem_of_getElem? (i := 210) rfl) rfl)
theorem kk_X5_136 : Cond.classLink RX5 136 RX1 ∈ WS := (ws_t3 (List.mem_of_getElem? (i := 15) rfl) rfl)
theorem ki_X1 : Cond.instantiable RX1 2 ∈ WS := (ws_t3 (List.mem_of_getElem? (i := 16) rfl) rfl)
theorem kc_J6_265 : Cond.constant RJ6 265 (1431655765) ∈ WS := (ws_t4 (List.mem_of_getElem? (i := 8) rfl) rfl)
theorem kc_J6_266 : Cond.constant RJ6 266 (858993459) ∈ WS := (ws_t4 (List.mem_of_getElem? (i := 9) rfl) rfl)
theorem kc_J6_267 : Cond.constant RJ6 267 (252645135) ∈ WS := (ws_t4 (List.mem_of_getElem? (i := 10) rfl) rfl)
theorem kk_X9_216 : Cond.classLink RX9 216 RX0 ∈ WS := (ws_t4 (List.mem_of_getElem? (i := 160) rfl) rfl)
theorem ki_X0 : Cond.instantiable RX0 1 ∈ WS := (ws_t4 (List.mem_of_getElem? (i := 161) rfl) rfl)
theorem kl_X0_13 : Cond.constantLong RX0 13 (1103515245) ∈ WS := (ws_t4 (List.mem_of_getElem? (i := 174) rfl) rfl)
theorem kl_X0_15 : Cond.constantLong RX0 15 (12345) ∈ WS := (ws_t4 (List.mem_of_getElem? (i := 175) rfl) rfl)
theorem kl_X0_17 : Cond.constantLong RX0 17 (2147483648) ∈ WS := (ws_t4 (List.mem_of_getElem? (i := 176) rfl) rfl)
theorem kl_X0_19 : Cond.constantLong RX0 19 (65536) ∈ WS := (ws_t4 (List.mem_of_getElem? (i := 177) rfl) rfl)
theorem kk_L_20 : Cond.classLink RL 20 RX10 ∈ WS := (ws_t5 (List.mem_of_getElem? (i := 28) rfl) rfl)
theorem ki_X10 : Cond.instantiable RX10 57 ∈ WS := (ws_t5 (List.mem_of_getElem? (i := 29) rfl) rfl)
theorem ka_boolean : Cond.arrayClass .boolean ∈ WS := (ws_t5 (List.mem_of_getElem? (i := 206) rfl) rfl)
theorem kl_X10_139 : Cond.constantLong RX10 139 (255) ∈ WS := (ws_t5 (List.mem_of_getElem? (i := 215) rfl) rfl)
theorem kl_X10_167 : Cond.constantLong RX10 167 (27) ∈ WS := (ws_t5 (List.mem_of_getElem? (i := 232) rfl) rfl)
theorem kl_X10_169 : Cond.constantLong RX10 169 (96) ∈ WS := (ws_t5 (List.mem_of_getElem? (i := 233) rfl) rfl)
theorem kl_X10_236 : Cond.constantLong RX10 236 (8983346868) ∈ WS := (ws_t5 (List.mem_of_getElem? (i := 234) rfl) rfl)
theorem kl_X10_181 : Cond.constantLong RX10 181 (1625504671) ∈ WS := (ws_t6 (List.mem_of_getElem? (i := 15) rfl) rfl)
theorem kl_X10_183 : Cond.constantLong RX10 183 (10502573) ∈ WS := (ws_t6 (List.mem_of_getElem? (i := 16) rfl) rfl)
theorem kl_X10_185 : Cond.constantLong RX10 185 (375050) ∈ WS := (ws_t6 (List.mem_of_getElem? (i := 17) rfl) rfl)
theorem kl_X10_187 : Cond.constantLong RX10 187 (38363444) ∈ WS := (ws_t6 (List.mem_of_getElem? (i := 18) rfl) rfl)
theorem kl_X10_189 : Cond.constantLong RX10 189 (6647) ∈ WS := (ws_t6 (List.mem_of_getElem? (i := 19) rfl) rfl)
theorem kl_X10_191 : Cond.constantLong RX10 191 (12257559) ∈ WS := (ws_t6 (List.mem_of_getElem? (i := 20) rfl) rfl)
theorem kl_X10_193 : Cond.constantLong RX10 193 (168984) ∈ WS := (ws_t6 (List.mem_of_getElem? (i := 21) rfl) rfl)
theorem kl_X10_195 : Cond.constantLong RX10 195 (2968) ∈ WS := (ws_t6 (List.mem_of_getElem? (i := 22) rfl) rfl)
theorem kl_X10_197 : Cond.constantLong RX10 197 (262768) ∈ WS := (ws_t6 (List.mem_of_getElem? (i := 23) rfl) rfl)
theorem kl_X10_203 : Cond.constantLong RX10 203 (10631) ∈ WS := (ws_t6 (List.mem_of_getElem? (i := 24) rfl) rfl)
theorem kl_X10_223 : Cond.constantLong RX10 223 (1111) ∈ WS := (ws_t6 (List.mem_of_getElem? (i := 33) rfl) rfl)
theorem kl_X10_225 : Cond.constantLong RX10 225 (423) ∈ WS := (ws_t6 (List.mem_of_getElem? (i := 34) rfl) rfl)
theorem kl_X10_238 : Cond.constantLong RX10 238 (63030) ∈ WS := (ws_t6 (List.mem_of_getElem? (i := 50) rfl) rfl)
theorem kl_X10_240 : Cond.constantLong RX10 240 (90090) ∈ WS := (ws_t6 (List.mem_of_getElem? (i := 63) rfl) rfl)
theorem kl_X10_242 : Cond.constantLong RX10 242 (555) ∈ WS := (ws_t6 (List.mem_of_getElem? (i := 64) rfl) rfl)
theorem kl_X10_244 : Cond.constantLong RX10 244 (11522) ∈ WS := (ws_t6 (List.mem_of_getElem? (i := 65) rfl) rfl)
theorem kl_X10_246 : Cond.constantLong RX10 246 (10792937) ∈ WS := (ws_t6 (List.mem_of_getElem? (i := 66) rfl) rfl)
theorem kl_X10_248 : Cond.constantLong RX10 248 (9518) ∈ WS := (ws_t6 (List.mem_of_getElem? (i := 67) rfl) rfl)
theorem kl_X10_250 : Cond.constantLong RX10 250 (257) ∈ WS := (ws_t6 (List.mem_of_getElem? (i := 68) rfl) rfl)
theorem kl_X10_252 : Cond.constantLong RX10 252 (12249946) ∈ WS := (ws_t6 (List.mem_of_getElem? (i := 69) rfl) rfl)
theorem kl_X10_254 : Cond.constantLong RX10 254 (4134649) ∈ WS := (ws_t6 (List.mem_of_getElem? (i := 70) rfl) rfl)
theorem kl_X10_431 : Cond.constantLong RX10 431 (1103515245) ∈ WS := (ws_t7 (List.mem_of_getElem? (i := 71) rfl) rfl)
theorem kl_X10_433 : Cond.constantLong RX10 433 (12345) ∈ WS := (ws_t7 (List.mem_of_getElem? (i := 72) rfl) rfl)
theorem kl_X10_435 : Cond.constantLong RX10 435 (2147483648) ∈ WS := (ws_t7 (List.mem_of_getElem? (i := 73) rfl) rfl)
theorem kl_X10_437 : Cond.constantLong RX10 437 (65536) ∈ WS := (ws_t7 (List.mem_of_getElem? (i := 74) rfl) rfl)
theorem kl_L_23 : Cond.constantLong RL 23 (4294967295) ∈ WS := (ws_t7 (List.mem_of_getElem? (i := 83) rfl) rfl)
