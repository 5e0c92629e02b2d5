def zSim0 (l : Launch) (G : zG) (INV : Nat → zMem → Prop) : Prop := ∀ (n : Nat) (M : zMem) (a b : Int), zrg a → zrg b → n < 512 → INV n M → ∃ PW : Int → zMem → Prop, Met l yL_register [.codeWith yL_register cL_register 5 (some .int) hh_register] (zR 10 4 24) (zwPc G M [.ref (zad G 0 0), .int (zI a), .int (zI b), .ref (zad G 27 0)]) (zQi G PW) 4 24 (zA G) ∧ ∀ (k : Int) (M1 : zMem), zrg k → PW k M1 → ∃ PR : Int → zMem → Prop, Met l yX8_register [.code yX8_register cX8_register 5 (some .int)] (zR 3 0 0) (zPc G M1 [.ref (zad G 26 0), .int (zI a), .int (zI b)]) (zQi G PR) 0 0 (zA G) ∧ ∀ (x : Int) (M2 : zMem), zrg x → PR x M2 → zV M2 26 0 0 = k ∧ (k = 0 → zV M2 27 0 0 = x) ∧ INV (n + 1) M2
def zSim1 (l : Launch) (G : zG) (INV : Nat → zMem → Prop) : Prop := ∀ (n : Nat) (M : zMem) (a : Int), zrg a → n < 512 → INV n M → ∃ PW : Int → zMem → Prop, Met l yL_withdraw [.codeWith yL_withdraw cL_withdraw 4 (some .int) hh_withdraw] (zR 9 2 12) (zwPc G M [.ref (zad G 0 0), .int (zI a), .ref (zad G 27 0)]) (zQi G PW) 2 12 (zA G) ∧ ∀ (k : Int) (M1 : zMem), zrg k → PW k M1 → ∃ PR : Int → zMem → Prop, Met l yX8_withdraw [.code yX8_withdraw cX8_withdraw 4 (some .int)] (zR 3 0 0) (zPc G M1 [.ref (zad G 26 0), .int (zI a)]) (zQi G PR) 0 0 (zA G) ∧ ∀ (x : Int) (M2 : zMem), zrg x → PR x M2 → zV M2 26 0 0 = k ∧ (k = 0 → zV M2 27 0 0 = x) ∧ INV (n + 1) M2
def zSim2 (l : Launch) (G : zG) (INV : Nat → zMem → Prop) : Prop := ∀ (n : Nat) (M : zMem) (a b d f : Int), zrg a → zrg b → zrg d → zrg f → n < 512 → INV n M → ∃ PW : Int → zMem → Prop, Met l yL_addLocator [.codeWith yL_addLocator cL_addLocator 7 (some .int) hh_addLocator] (zR 9 6 36) (zwPc G M [.ref (zad G 0 0), .int (zI a), .int (zI b), .int (zI d), .int (zI f), .ref (zad G 27 0)]) (zQi G PW) 6 36 (zA G) ∧ ∀ (k : Int) (M1 : zMem), zrg k → PW k M1 → ∃ PR : Int → zMem → Prop, Met l yX8_addLocator [.code yX8_addLocator cX8_addLocator 7 (some .int)] (zR 4 0 0) (zPc G M1 [.ref (zad G 26 0), .int (zI a), .int (zI b), .int (zI d), .int (zI f)]) (zQi G PR) 0 0 (zA G) ∧ ∀ (x : Int) (M2 : zMem), zrg x → PR x M2 → zV M2 26 0 0 = k ∧ (k = 0 → zV M2 27 0 0 = x) ∧ INV (n + 1) M2
def zSim3 (l : Launch) (G : zG) (INV : Nat → zMem → Prop) : Prop := ∀ (n : Nat) (M : zMem) (a b d : Int), zrg a → zrg b → zrg d → n < 512 → INV n M → ∃ PW : Int → zMem → Prop, Met l yL_move [.codeWith yL_move cL_move 6 (some .int) hh_move] (zR 9 6 36) (zwPc G M [.ref (zad G 0 0), .int (zI a), .int (zI b), .int (zI d), .ref (zad G 27 0)]) (zQi G PW) 6 36 (zA G) ∧ ∀ (k : Int) (M1 : zMem), zrg k → PW k M1 → ∃ PR : Int → zMem → Prop, Met l yX8_move [.code yX8_move cX8_move 5 (some .int)] (zR 4 0 0) (zPc G M1 [.ref (zad G 26 0), .int (zI a), .int (zI b), .int (zI d)]) (zQi G PR) 0 0 (zA G) ∧ ∀ (x : Int) (M2 : zMem), zrg x → PR x M2 → zV M2 26 0 0 = k ∧ (k = 0 → zV M2 27 0 0 = x) ∧ INV (n + 1) M2
def zSim4 (l : Launch) (G : zG) (INV : Nat → zMem → Prop) : Prop := ∀ (n : Nat) (M : zMem) (a b : Int), zrg a → zrg b → n < 512 → INV n M → ∃ PW : Int → zMem → Prop, Met l yL_removeLocator [.codeWith yL_removeLocator cL_removeLocator 5 (some .int) hh_removeLocator] (zR 9 4 24) (zwPc G M [.ref (zad G 0 0), .int (zI a), .int (zI b), .ref (zad G 27 0)]) (zQi G PW) 4 24 (zA G) ∧ ∀ (k : Int) (M1 : zMem), zrg k → PW k M1 → ∃ PR : Int → zMem → Prop, Met l yX8_removeLocator [.code yX8_removeLocator cX8_removeLocator 4 (some .int)] (zR 4 0 0) (zPc G M1 [.ref (zad G 26 0), .int (zI a), .int (zI b)]) (zQi G PR) 0 0 (zA G) ∧ ∀ (x : Int) (M2 : zMem), zrg x → PR x M2 → zV M2 26 0 0 = k ∧ (k = 0 → zV M2 27 0 0 = x) ∧ INV (n + 1) M2
def zSim5 (l : Launch) (G : zG) (INV : Nat → zMem → Prop) : Prop := ∀ (n : Nat) (M : zMem) (a : Int), zrg a → n < 512 → INV n M → ∃ PW : Int → zMem → Prop, Met l yL_mappingOf [.codeWith yL_mappingOf cL_mappingOf 4 (some .int) hh_mappingOf] (zR 9 1 6) (zwPc G M [.ref (zad G 0 0), .int (zI a), .ref (zad G 27 0)]) (zQi G PW) 1 6 (zA G) ∧ ∀ (k : Int) (M1 : zMem), zrg k → PW k M1 → ∃ PR : Int → zMem → Prop, Met l yX8_mappingOf [.code yX8_mappingOf cX8_mappingOf 2 (some .int)] (zR 3 0 0) (zPc G M1 [.ref (zad G 26 0), .int (zI a)]) (zQi G PR) 0 0 (zA G) ∧ ∀ (x : Int) (M2 : zMem), zrg x → PR x M2 → zV M2 26 0 0 = k ∧ (k = 0 → zV M2 27 0 0 = x) ∧ INV (n + 1) M2
def zSim6 (l : Launch) (G : zG) (INV : Nat → zMem → Prop) : Prop := ∀ (n : Nat) (M : zMem) (a : Int), zrg a → n < 512 → INV n M → ∃ PW : Int → zMem → Prop, Met l yL_answerLength [.codeWith yL_answerLength cL_answerLength 4 (some .int) hh_answerLength] (zR 9 1 6) (zwPc G M [.ref (zad G 0 0), .int (zI a), .ref (zad G 27 0)]) (zQi G PW) 1 6 (zA G) ∧ ∀ (k : Int) (M1 : zMem), zrg k → PW k M1 → ∃ PR : Int → zMem → Prop, Met l yX8_answerLength [.code yX8_answerLength cX8_answerLength 3 (some .int)] (zR 4 0 0) (zPc G M1 [.ref (zad G 26 0), .int (zI a)]) (zQi G PR) 0 0 (zA G) ∧ ∀ (x : Int) (M2 : zMem), zrg x → PR x M2 → zV M2 26 0 0 = k ∧ (k = 0 → zV M2 27 0 0 = x) ∧ INV (n + 1) M2
def zSim7 (l : Launch) (G : zG) (INV : Nat → zMem → Prop) : Prop := ∀ (n : Nat) (M : zMem) (a : Int), zrg a → n < 512 → INV n M → ∃ PW : Int → zMem → Prop, Met l yL_version [.codeWith yL_version cL_version 4 (some .int) hh_version] (zR 9 1 6) (zwPc G M [.ref (zad G 0 0), .int (zI a), .ref (zad G 27 0)]) (zQi G PW) 1 6 (zA G) ∧ ∀ (k : Int) (M1 : zMem), zrg k → PW k M1 → ∃ PR : Int → zMem → Prop, Met l yX8_version [.code yX8_version cX8_version 2 (some .int)] (zR 2 0 0) (zPc G M1 [.ref (zad G 26 0), .int (zI a)]) (zQi G PR) 0 0 (zA G) ∧ ∀ (x : Int) (M2 : zMem), zrg x → PR x M2 → zV M2 26 0 0 = k ∧ (k = 0 → zV M2 27 0 0 = x) ∧ INV (n + 1) M2
def zSim8 (l : Launch) (G : zG) (INV : Nat → zMem → Prop) : Prop := ∀ (n : Nat) (M : zMem) (a b d : Int), zrg a → zrg b → zrg d → n < 512 → INV n M → ∃ PW : Int → zMem → Prop, Met l yL_delegate [.codeWith yL_delegate cL_delegate 6 (some .int) hh_delegate] (zR 10 5 30) (zwPc G M [.ref (zad G 0 0), .int (zI a), .int (zI b), .int (zI d), .ref (zad G 27 0)]) (zQi G PW) 5 30 (zA G) ∧ ∀ (k : Int) (M1 : zMem), zrg k → PW k M1 → ∃ PR : Int → zMem → Prop, Met l yX8_delegate [.code yX8_delegate cX8_delegate 6 (some .int)] (zR 3 0 0) (zPc G M1 [.ref (zad G 26 0), .int (zI a), .int (zI b), .int (zI d)]) (zQi G PR) 0 0 (zA G) ∧ ∀ (x : Int) (M2 : zMem), zrg x → PR x M2 → zV M2 26 0 0 = k ∧ (k = 0 → zV M2 27 0 0 = x) ∧ INV (n + 1) M2
def zSim9 (l : Launch) (G : zG) (INV : Nat → zMem → Prop) : Prop := ∀ (n : Nat) (M : zMem) (a b : Int), zrg a → (b = 0 ∨ b = 1) → n < 512 → INV n M → ∃ PW : Int → zMem → Prop, Met l yL_setUp [.codeWith yL_setUp cL_setUp 5 (some .int) hh_setUp] (zR 9 1 6) (zwPc G M [.ref (zad G 0 0), .int (zI a), .int (zI b), .ref (zad G 27 0)]) (zQi G PW) 1 6 (zA G) ∧ ∀ (k : Int) (M1 : zMem), zrg k → PW k M1 → ∃ PR : Int → zMem → Prop, Met l yX8_setUp [.code yX8_setUp cX8_setUp 4 (some .boolean)] (zR 2 0 0) (zPc G M1 [.ref (zad G 26 0), .int (zI a), .int (zI b)]) (zQi G PR) 0 0 (zA G) ∧ ∀ (x : Int) (M2 : zMem), zrg x → PR x M2 → zV M2 26 0 0 = k ∧ (k = 0 → zV M2 27 0 0 = x) ∧ (k = 0 → x = 0 ∨ x = 1) ∧ INV (n + 1) M2
def zSim10 (l : Launch) (G : zG) (INV : Nat → zMem → Prop) : Prop := ∀ (n : Nat) (M : zMem) (a : Int), zrg a → n < 512 → INV n M → ∃ PW : Int → zMem → Prop, Met l yL_serverOf [.codeWith yL_serverOf cL_serverOf 4 (some .int) hh_serverOf] (zR 9 1 6) (zwPc G M [.ref (zad G 0 0), .int (zI a), .ref (zad G 27 0)]) (zQi G PW) 1 6 (zA G) ∧ ∀ (k : Int) (M1 : zMem), zrg k → PW k M1 → ∃ PR : Int → zMem → Prop, Met l yX8_serverOf [.code yX8_serverOf cX8_serverOf 2 (some .int)] (zR 3 0 0) (zPc G M1 [.ref (zad G 26 0), .int (zI a)]) (zQi G PR) 0 0 (zA G) ∧ ∀ (x : Int) (M2 : zMem), zrg x → PR x M2 → zV M2 26 0 0 = k ∧ (k = 0 → zV M2 27 0 0 = x) ∧ INV (n + 1) M2
def zSim11 (l : Launch) (G : zG) (INV : Nat → zMem → Prop) : Prop := ∀ (n : Nat) (M : zMem) (a : Int), zrg a → n < 512 → INV n M → ∃ PW : Int → zMem → Prop, Met l yL_answers [.codeWith yL_answers cL_answers 4 (some .int) hh_answers] (zR 9 1 6) (zwPc G M [.ref (zad G 0 0), .int (zI a), .ref (zad G 27 0)]) (zQi G PW) 1 6 (zA G) ∧ ∀ (k : Int) (M1 : zMem), zrg k → PW k M1 → ∃ PR : Int → zMem → Prop, Met l yX8_answers [.code yX8_answers cX8_answers 2 (some .int)] (zR 2 0 0) (zPc G M1 [.ref (zad G 26 0), .int (zI a)]) (zQi G PR) 0 0 (zA G) ∧ ∀ (x : Int) (M2 : zMem), zrg x → PR x M2 → zV M2 26 0 0 = k ∧ (k = 0 → zV M2 27 0 0 = x) ∧ INV (n + 1) M2
def zSim12 (l : Launch) (G : zG) (INV : Nat → zMem → Prop) : Prop := ∀ (n : Nat) (M : zMem) (a b : Int), zrg a → zrg b → n < 512 → INV n M → ∃ PW : Int → zMem → Prop, Met l yL_send [.codeWith yL_send cL_send 5 (some .int) hh_send] (zR 9 2 12) (zwPc G M [.ref (zad G 0 0), .int (zI a), .int (zI b), .ref (zad G 27 0)]) (zQi G PW) 2 12 (zA G) ∧ ∀ (k : Int) (M1 : zMem), zrg k → PW k M1 → ∃ PR : Int → zMem → Prop, Met l yX8_send [.code yX8_send cX8_send 5 (some .int)] (zR 5 0 0) (zPc G M1 [.ref (zad G 26 0), .int (zI a), .int (zI b)]) (zQi G PR) 0 0 (zA G) ∧ ∀ (x : Int) (M2 : zMem), zrg x → PR x M2 → zV M2 26 0 0 = k ∧ (k = 0 → zV M2 27 0 0 = x) ∧ INV (n + 1) M2
def zSim13 (l : Launch) (G : zG) (INV : Nat → zMem → Prop) : Prop := ∀ (n : Nat) (M : zMem) (a b d : Int), zrg a → zrg b → (d = 0 ∨ d = 1) → n < 512 → INV n M → ∃ PW : Int → zMem → Prop, Met l yL_probe [.codeWith yL_probe cL_probe 6 (some .int) hh_probe] (zR 9 2 12) (zwPc G M [.ref (zad G 0 0), .int (zI a), .int (zI b), .int (zI d), .ref (zad G 27 0)]) (zQi G PW) 2 12 (zA G) ∧ ∀ (k : Int) (M1 : zMem), zrg k → PW k M1 → ∃ PR : Int → zMem → Prop, Met l yX8_probe [.code yX8_probe cX8_probe 6 (some .int)] (zR 2 0 0) (zPc G M1 [.ref (zad G 26 0), .int (zI a), .int (zI b), .int (zI d)]) (zQi G PR) 0 0 (zA G) ∧ ∀ (x : Int) (M2 : zMem), zrg x → PR x M2 → zV M2 26 0 0 = k ∧ (k = 0 → zV M2 27 0 0 = x) ∧ INV (n + 1) M2
def zSim14 (l : Launch) (G : zG) (INV : Nat → zMem → Prop) : Prop := ∀ (n : Nat) (M : zMem) (a b : Int), zrg a → zrg b → n < 512 → INV n M → ∃ PW : Int → zMem → Prop, Met l yL_setLifetimes [.codeWith yL_setLifetimes cL_setLifetimes 5 (some .int) hh_setLifetimes] (zR 9 2 12) (zwPc G M [.ref (zad G 0 0), .int (zI a), .int (zI b), .ref (zad G 27 0)]) (zQi G PW) 2 12 (zA G) ∧ ∀ (k : Int) (M1 : zMem), zrg k → PW k M1 → ∃ PR : Int → zMem → Prop, Met l yX8_setLifetimes [.code yX8_setLifetimes cX8_setLifetimes 4 (some .int)] (zR 1 0 0) (zPc G M1 [.ref (zad G 26 0), .int (zI a), .int (zI b)]) (zQi G PR) 0 0 (zA G) ∧ ∀ (x : Int) (M2 : zMem), zrg x → PR x M2 → zV M2 26 0 0 = k ∧ (k = 0 → zV M2 27 0 0 = x) ∧ INV (n + 1) M2
def zSim15 (l : Launch) (G : zG) (INV : Nat → zMem → Prop) : Prop := ∀ (n : Nat) (M : zMem) (a : Int), zrg a → n < 512 → INV n M → ∃ PW : Int → zMem → Prop, Met l yL_pass [.codeWith yL_pass cL_pass 4 (some .int) hh_pass] (zR 9 1 6) (zwPc G M [.ref (zad G 0 0), .int (zI a), .ref (zad G 27 0)]) (zQi G PW) 1 6 (zA G) ∧ ∀ (k : Int) (M1 : zMem), zrg k → PW k M1 → ∃ PR : Int → zMem → Prop, Met l yX8_pass [.code yX8_pass cX8_pass 2 (some .int)] (zR 1 0 0) (zPc G M1 [.ref (zad G 26 0), .int (zI a)]) (zQi G PR) 0 0 (zA G) ∧ ∀ (x : Int) (M2 : zMem), zrg x → PR x M2 → zV M2 26 0 0 = k ∧ (k = 0 → zV M2 27 0 0 = x) ∧ INV (n + 1) M2
def zSim16 (l : Launch) (G : zG) (INV : Nat → zMem → Prop) : Prop := ∀ (n : Nat) (M : zMem) (a : Int), zrg a → n < 512 → INV n M → ∃ PW : Int → zMem → Prop, Met l yL_entries [.codeWith yL_entries cL_entries 4 (some .int) hh_entries] (zR 9 1 6) (zwPc G M [.ref (zad G 0 0), .int (zI a), .ref (zad G 27 0)]) (zQi G PW) 1 6 (zA G) ∧ ∀ (k : Int) (M1 : zMem), zrg k → PW k M1 → ∃ PR : Int → zMem → Prop, Met l yX8_entries [.code yX8_entries cX8_entries 2 (some .int)] (zR 2 0 0) (zPc G M1 [.ref (zad G 26 0), .int (zI a)]) (zQi G PR) 0 0 (zA G) ∧ ∀ (x : Int) (M2 : zMem), zrg x → PR x M2 → zV M2 26 0 0 = k ∧ (k = 0 → zV M2 27 0 0 = x) ∧ INV (n + 1) M2
def zSim17 (l : Launch) (G : zG) (INV : Nat → zMem → Prop) : Prop := ∀ (n : Nat) (M : zMem) (a b : Int), zrg a → zrg b → n < 512 → INV n M → ∃ PW : Int → zMem → Prop, Met l yL_prefixOf [.codeWith yL_prefixOf cL_prefixOf 5 (some .int) hh_prefixOf] (zR 10 2 12) (zwPc G M [.ref (zad G 0 0), .int (zI a), .int (zI b), .ref (zad G 27 0)]) (zQi G PW) 2 12 (zA G) ∧ ∀ (k : Int) (M1 : zMem), zrg k → PW k M1 → ∃ PR : Int → zMem → Prop, Met l yX8_prefixOf [.code yX8_prefixOf cX8_prefixOf 4 (some .int)] (zR 3 0 0) (zPc G M1 [.ref (zad G 26 0), .int (zI a), .int (zI b)]) (zQi G PR) 0 0 (zA G) ∧ ∀ (x : Int) (M2 : zMem), zrg x → PR x M2 → zV M2 26 0 0 = k ∧ (k = 0 → zV M2 27 0 0 = x) ∧ INV (n + 1) M2
def zSim18 (l : Launch) (G : zG) (INV : Nat → zMem → Prop) : Prop := ∀ (n : Nat) (M : zMem) (a b : Int), zrg a → zrg b → n < 512 → INV n M → ∃ PW : Int → zMem → Prop, Met l yL_mappingAt [.codeWith yL_mappingAt cL_mappingAt 5 (some .int) hh_mappingAt] (zR 10 2 12) (zwPc G M [.ref (zad G 0 0), .int (zI a), .int (zI b), .ref (zad G 27 0)]) (zQi G PW) 2 12 (zA G) ∧ ∀ (k : Int) (M1 : zMem), zrg k → PW k M1 → ∃ PR : Int → zMem → Prop, Met l yX8_mappingAt [.code yX8_mappingAt cX8_mappingAt 4 (some .int)] (zR 3 0 0) (zPc G M1 [.ref (zad G 26 0), .int (zI a), .int (zI b)]) (zQi G PR) 0 0 (zA G) ∧ ∀ (x : Int) (M2 : zMem), zrg x → PR x M2 → zV M2 26 0 0 = k ∧ (k = 0 → zV M2 27 0 0 = x) ∧ INV (n + 1) M2
def zSim19 (l : Launch) (G : zG) (INV : Nat → zMem → Prop) : Prop := ∀ (n : Nat) (M : zMem) (a b : Int), zrg a → zrg b → n < 512 → INV n M → ∃ PW : Int → zMem → Prop, Met l yL_lasts [.codeWith yL_lasts cL_lasts 5 (some .int) hh_lasts] (zR 10 2 12) (zwPc G M [.ref (zad G 0 0), .int (zI a), .int (zI b), .ref (zad G 27 0)]) (zQi G PW) 2 12 (zA G) ∧ ∀ (k : Int) (M1 : zMem), zrg k → PW k M1 → ∃ PR : Int → zMem → Prop, Met l yX8_lasts [.code yX8_lasts cX8_lasts 4 (some .int)] (zR 3 0 0) (zPc G M1 [.ref (zad G 26 0), .int (zI a), .int (zI b)]) (zQi G PR) 0 0 (zA G) ∧ ∀ (x : Int) (M2 : zMem), zrg x → PR x M2 → zV M2 26 0 0 = k ∧ (k = 0 → zV M2 27 0 0 = x) ∧ INV (n + 1) M2
def zSim20 (l : Launch) (G : zG) (INV : Nat → zMem → Prop) : Prop := ∀ (n : Nat) (M : zMem) (a b d : Int), zrg a → zrg b → zrg d → n < 512 → INV n M → ∃ PW : Int → zMem → Prop, Met l yL_packetsTo [.codeWith yL_packetsTo cL_packetsTo 6 (some .int) hh_packetsTo] (zR 10 3 18) (zwPc G M [.ref (zad G 0 0), .int (zI a), .int (zI b), .int (zI d), .ref (zad G 27 0)]) (zQi G PW) 3 18 (zA G) ∧ ∀ (k : Int) (M1 : zMem), zrg k → PW k M1 → ∃ PR : Int → zMem → Prop, Met l yX8_packetsTo [.code yX8_packetsTo cX8_packetsTo 7 (some .int)] (zR 3 0 0) (zPc G M1 [.ref (zad G 26 0), .int (zI a), .int (zI b), .int (zI d)]) (zQi G PR) 0 0 (zA G) ∧ ∀ (x : Int) (M2 : zMem), zrg x → PR x M2 → zV M2 26 0 0 = k ∧ (k = 0 → zV M2 27 0 0 = x) ∧ INV (n + 1) M2
def zSim21 (INV : Nat → zMem → Prop) : Prop := ∀ (n : Nat) (M : zMem), n < 512 → INV n M → zV M 0 0 6 = zV M 26 0 34 ∧ ∀ M2 : zMem, zthr M M2 0 → INV (n + 1) M2
def zSimN (INV : Nat → zMem → Prop) : Prop := ∀ (n : Nat) (M : zMem), INV n M → INV (n + 1) M
set_option maxHeartbeats 4000000 in
set_option maxRecDepth 100000 in
theorem law_op21 {p : Program} {l : Launch} {e : Env} {s : State} {m : MethodId} {below : List Frame} {meth : Method} {c : Code} {G : zG} {b L : Nat} {xs : Nat → Int32} {M : zMem} {cells slots : Nat} {i : Int} (C : zC p s m #[Value.ref b] meth c G RL cL_law 7 (some .boolean)) (hN : zNC s) (hX : va_X b L xs s s.heap) (hbl : b < s.heap.size) (hG : G.2.2 = s.heap) (hi : 0 ≤ i) (hi5 : i + 5 ≤ L) (hL : L ≤ 2560) (hc : cells + 6 ≤ 668696) (hs : slots + 36 ≤ 7090017) {NX : zMem → Prop} (he : zV M 0 0 6 = zV M 26 0 34) (hend : ∀ M2 : zMem, zthr M M2 0 → NX M2) (hnx : ∀ M2 : zMem, NX M2 → zZ p l e room_1 s m #[Value.ref b] below meth c G 7 (lw_Z below #[Value.ref b] s) M2 cells slots 1596 [(4, .int (zI i)), (3, .ref (zad G 27 0)), (2, .ref (zad G 26 0)), (1, .ref (zad G 0 0)), (0, .ref b)] []) : zZ p l e room_1 s m #[Value.ref b] below meth c G 7 (lw_Z below #[Value.ref b] s) M cells slots 1583 [(4, .int (zI i)), (3, .ref (zad G 27 0)), (2, .ref (zad G 26 0)), (1, .ref (zad G 0 0)), (0, .ref b)] [] := by
  refine z_aload_n C 1583 dL_law_1583 rfl 3 rfl ?_
  refine z_callVi C 1584 (As := []) (rest := []) (c_X7_solicitations l G M) zcl7 (show 0 < 1 by omega) (zc0 ..) (zW_of 0 C wm_L_163 wc_X7_solicitations wini_7 wi_X7_solicitations wse_X7_solicitations ⟨by decide, by decide, by decide⟩ ⟨by decide, by decide⟩) rfl (Nat.le_of_ble_eq_true rfl) ⟨by show _ ≤ (668696 : Nat); omega, by show _ ≤ (7090017 : Nat); omega⟩ dL_law_1584 rfl (fun x M1 hx hP => ?_)
  obtain ⟨rfl, hP⟩ := hP
  refine z_aload_n C 1587 dL_law_1587 rfl 2 rfl ?_
  refine z_callVi C 1588 (As := []) (rest := [.int (zI x)]) (c_X8_solicitations l G M) zcl8 (show 0 < 1 by omega) (zc26 ..) (zW_of 0 C wm_L_166 wc_X8_solicitations wini_8 wi_X8_solicitations wse_X8_solicitations ⟨by decide, by decide, by decide⟩ ⟨by decide, by decide⟩) rfl (Nat.le_of_ble_eq_true rfl) ⟨by show _ ≤ (668696 : Nat); omega, by show _ ≤ (7090017 : Nat); omega⟩ dL_law_1588 rfl (fun y M2 hy hP2 => ?_)
  obtain ⟨hP2, hP3⟩ := hP2
  refine z_icmp_eq C 1591 1596 dL_law_1591 (by decide) hx hy (fun _ => ?_) (fun c1 => absurd (by rw [hP, hP3, he]) c1)
  exact hnx M2 (hend M2 hP2)
set_option maxHeartbeats 4000000 in
set_option maxRecDepth 100000 in
theorem law_loop {p : Program} {l : Launch} {e : Env} {s : State} {m : MethodId} {below : List Frame} {meth : Method} {c : Code} {G : zG} {b L : Nat} {xs : Nat → Int32} {INV : Nat → zMem → Prop} (C : zC p s m #[Value.ref b] meth c G RL cL_law 7 (some .boolean)) (hN : zNC s) (hX : va_X b L xs s s.heap) (hbl : b < s.heap.size) (hG : G.2.2 = s.heap) (hL : L ≤ 2560) (h0 : zSim0 l G INV) (h1 : zSim1 l G INV) (h2 : zSim2 l G INV) (h3 : zSim3 l G INV) (h4 : zSim4 l G INV) (h5 : zSim5 l G INV) (h6 : zSim6 l G INV) (h7 : zSim7 l G INV) (h8 : zSim8 l G INV) (h9 : zSim9 l G INV) (h10 : zSim10 l G INV) (h11 : zSim11 l G INV) (h12 : zSim12 l G INV) (h13 : zSim13 l G INV) (h14 : zSim14 l G INV) (h15 : zSim15 l G INV) (h16 : zSim16 l G INV) (h17 : zSim17 l G INV) (h18 : zSim18 l G INV) (h19 : zSim19 l G INV) (h20 : zSim20 l G INV) (h21 : zSim21 INV) (hnn : zSimN INV) : ∀ (kz n : Nat) (M : zMem), INV n M → 5 * n ≤ L → 512 - n < kz → zZ p l e room_1 s m #[Value.ref b] below meth c G 7 (lw_Z below #[Value.ref b] s) M (371 + 6 * n) (2634 + 36 * n) 23 [(4, .int (zI ((5 * n : Nat) : Int))), (3, .ref (zad G 27 0)), (2, .ref (zad G 26 0)), (1, .ref (zad G 0 0)), (0, .ref b)] [] := by
  intro kz
  induction kz with
  | zero => intro n M h1 h2 h3; omega
  | succ kz ih =>
    intro n M hI hn5 hk
    generalize hi9 : ((5 * n : Nat) : Int) = i
    have hi : 0 ≤ i := by omega
    have hnx : 5 * n + 5 ≤ L → ∀ (M2 : zMem) (ce sl : Nat), ce ≤ 371 + 6 * (n + 1) → sl ≤ 2634 + 36 * (n + 1) → INV (n + 1) M2 → zZ p l e room_1 s m #[Value.ref b] below meth c G 7 (lw_Z below #[Value.ref b] s) M2 ce sl 1596 [(4, .int (zI i)), (3, .ref (zad G 27 0)), (2, .ref (zad G 26 0)), (1, .ref (zad G 0 0)), (0, .ref b)] [] := by
      intro h9 M2 ce sl hce hsl hI2
      refine z_iinc (lv' := [(4, .int (zI (i + 5))), (3, .ref (zad G 27 0)), (2, .ref (zad G 26 0)), (1, .ref (zad G 0 0)), (0, .ref b)]) C 1596 dL_law_1596 0 rfl (by decide) rfl ?_
      refine z_goto C 1599 23 dL_law_1599 (by decide) ?_
      refine zZ_wd hce hsl ?_
      have h8 := ih (n + 1) M2 hI2 (by omega) (by omega)
      rw [show ((5 * (n + 1) : Nat) : Int) = i + 5 by omega] at h8
      exact h8
    refine z_iload C 23 dL_law_23 0 rfl ?_
    refine z_aload_n C 25 dL_law_25 rfl 4 rfl ?_
    refine zs_len C hX hbl hG 26 dL_law_26 ?_
    refine z_iconst C 27 dL_law_27 ?_
    refine z_isub C 28 dL_law_28 ?_
    refine z_icmp_gt C 29 1602 dL_law_29 (by decide) (by omega) (by omega) (fun c1 => ?_) (fun c1 => ?_)
    · refine z_iconst C 1602 dL_law_1602 ?_
      exact zs_end C rfl hG (by omega) (by omega) dL_law_1603
    have hi5 : i + 5 ≤ L := by omega
    have hnx := hnx (by omega)
    refine z_aload_n C 32 dL_law_32 rfl 4 rfl ?_
    refine z_iload C 33 dL_law_33 0 rfl ?_
    refine zs_ld C hX hbl hG 35 (by omega) (by omega) (by omega) dL_law_35 (fun y hy ey => ?_)
    refine z_bipush C 36 dL_law_36 (by decide +kernel) ?_
    obtain ⟨v, hv0, hv1, hv⟩ := z_and31 y
    refine z_iand C 38 (v := v) dL_law_38 hv ?_
    by_cases hd : 21 < v
    · refine zs_tabOut C 39 1596 (by omega) dL_law_39 hd (by decide) ?_
      exact hnx M _ _ (by omega) (by omega) (hnn n M hI)
    have hxr : ∀ j : Nat, zrg (xs j).toInt := fun j => zrgI _
    have hvv : v = 0 ∨ v = 1 ∨ v = 2 ∨ v = 3 ∨ v = 4 ∨ v = 5 ∨ v = 6 ∨ v = 7 ∨ v = 8 ∨ v = 9 ∨ v = 10 ∨ v = 11 ∨ v = 12 ∨ v = 13 ∨ v = 14 ∨ v = 15 ∨ v = 16 ∨ v = 17 ∨ v = 18 ∨ v = 19 ∨ v = 20 ∨ v = 21 := by omega
    rcases hvv with rfl | rfl | rfl | rfl | rfl | rfl | rfl | rfl | rfl | rfl | rfl | rfl | rfl | rfl | rfl | rfl | rfl | rfl | rfl | rfl | rfl | rfl
    · refine zs_tabIn C 39 140 (by decide) dL_law_39 (by decide) (by decide) rfl (by decide) ?_
      obtain ⟨PW, hW, hop⟩ := h0 n M (xs (i + 1).toNat).toInt (xs (i + 2).toNat).toInt (hxr _) (hxr _) (by omega) hI
      exact law_op0 C hN hX hbl hG hi hi5 hL (by omega) (by omega) hW hop (fun M2 h => hnx M2 _ _ (by omega) (by omega) h)
    · refine zs_tabIn C 39 208 (by decide) dL_law_39 (by decide) (by decide) rfl (by decide) ?_
      obtain ⟨PW, hW, hop⟩ := h1 n M (xs (i + 1).toNat).toInt (hxr _) (by omega) hI
      exact law_op1 C hN hX hbl hG hi hi5 hL (by omega) (by omega) hW hop (fun M2 h => hnx M2 _ _ (by omega) (by omega) h)
    · refine zs_tabIn C 39 264 (by decide) dL_law_39 (by decide) (by decide) rfl (by decide) ?_
      obtain ⟨PW, hW, hop⟩ := h2 n M (xs (i + 1).toNat).toInt (xs (i + 2).toNat).toInt (xs (i + 3).toNat).toInt (xs (i + 4).toNat).toInt (hxr _) (hxr _) (hxr _) (hxr _) (by omega) hI
      exact law_op2 C hN hX hbl hG hi hi5 hL (by omega) (by omega) hW hop (fun M2 h => hnx M2 _ _ (by omega) (by omega) h)
    · refine zs_tabIn C 39 356 (by decide) dL_law_39 (by decide) (by decide) rfl (by decide) ?_
      obtain ⟨PW, hW, hop⟩ := h3 n M (xs (i + 1).toNat).toInt (xs (i + 2).toNat).toInt (xs (i + 3).toNat).toInt (hxr _) (hxr _) (hxr _) (by omega) hI
      exact law_op3 C hN hX hbl hG hi hi5 hL (by omega) (by omega) hW hop (fun M2 h => hnx M2 _ _ (by omega) (by omega) h)
    · refine zs_tabIn C 39 436 (by decide) dL_law_39 (by decide) (by decide) rfl (by decide) ?_
      obtain ⟨PW, hW, hop⟩ := h4 n M (xs (i + 1).toNat).toInt (xs (i + 2).toNat).toInt (hxr _) (hxr _) (by omega) hI
      exact law_op4 C hN hX hbl hG hi hi5 hL (by omega) (by omega) hW hop (fun M2 h => hnx M2 _ _ (by omega) (by omega) h)
    · refine zs_tabIn C 39 504 (by decide) dL_law_39 (by decide) (by decide) rfl (by decide) ?_
      obtain ⟨PW, hW, hop⟩ := h5 n M (xs (i + 1).toNat).toInt (hxr _) (by omega) hI
      exact law_op5 C hN hX hbl hG hi hi5 hL (by omega) (by omega) hW hop (fun M2 h => hnx M2 _ _ (by omega) (by omega) h)
    · refine zs_tabIn C 39 560 (by decide) dL_law_39 (by decide) (by decide) rfl (by decide) ?_
      obtain ⟨PW, hW, hop⟩ := h6 n M (xs (i + 1).toNat).toInt (hxr _) (by omega) hI
      exact law_op6 C hN hX hbl hG hi hi5 hL (by omega) (by omega) hW hop (fun M2 h => hnx M2 _ _ (by omega) (by omega) h)
    · refine zs_tabIn C 39 616 (by decide) dL_law_39 (by decide) (by decide) rfl (by decide) ?_
      obtain ⟨PW, hW, hop⟩ := h7 n M (xs (i + 1).toNat).toInt (hxr _) (by omega) hI
      exact law_op7 C hN hX hbl hG hi hi5 hL (by omega) (by omega) hW hop (fun M2 h => hnx M2 _ _ (by omega) (by omega) h)
    · refine zs_tabIn C 39 672 (by decide) dL_law_39 (by decide) (by decide) rfl (by decide) ?_
      obtain ⟨PW, hW, hop⟩ := h8 n M (xs (i + 1).toNat).toInt (xs (i + 2).toNat).toInt (xs (i + 3).toNat).toInt (hxr _) (hxr _) (hxr _) (by omega) hI
      exact law_op8 C hN hX hbl hG hi hi5 hL (by omega) (by omega) hW hop (fun M2 h => hnx M2 _ _ (by omega) (by omega) h)
    · refine zs_tabIn C 39 752 (by decide) dL_law_39 (by decide) (by decide) rfl (by decide) ?_
      obtain ⟨u, hu⟩ : ∃ u : Int, ((xs (i + 2).toNat).toInt = 0 ∧ u = 0) ∨ (¬ (xs (i + 2).toNat).toInt = 0 ∧ u = 1) := by
        by_cases z : (xs (i + 2).toNat).toInt = 0
        · exact ⟨0, Or.inl ⟨z, rfl⟩⟩
        · exact ⟨1, Or.inr ⟨z, rfl⟩⟩
      have hub : u = 0 ∨ u = 1 := by rcases hu with h | h; exact Or.inl h.2; exact Or.inr h.2
      obtain ⟨PW, hW, hop⟩ := h9 n M (xs (i + 1).toNat).toInt u (hxr _) hub (by omega) hI
      exact law_op9 C hN hX hbl hG hi hi5 hL (by omega) (by omega) hu hW hop (fun M2 h => hnx M2 _ _ (by omega) (by omega) h)
    · refine zs_tabIn C 39 843 (by decide) dL_law_39 (by decide) (by decide) rfl (by decide) ?_
      obtain ⟨PW, hW, hop⟩ := h10 n M (xs (i + 1).toNat).toInt (hxr _) (by omega) hI
      exact law_op10 C hN hX hbl hG hi hi5 hL (by omega) (by omega) hW hop (fun M2 h => hnx M2 _ _ (by omega) (by omega) h)
    · refine zs_tabIn C 39 899 (by decide) dL_law_39 (by decide) (by decide) rfl (by decide) ?_
      obtain ⟨PW, hW, hop⟩ := h11 n M (xs (i + 1).toNat).toInt (hxr _) (by omega) hI
      exact law_op11 C hN hX hbl hG hi hi5 hL (by omega) (by omega) hW hop (fun M2 h => hnx M2 _ _ (by omega) (by omega) h)
    · refine zs_tabIn C 39 955 (by decide) dL_law_39 (by decide) (by decide) rfl (by decide) ?_
      obtain ⟨PW, hW, hop⟩ := h12 n M (xs (i + 1).toNat).toInt (xs (i + 2).toNat).toInt (hxr _) (hxr _) (by omega) hI
      exact law_op12 C hN hX hbl hG hi hi5 hL (by omega) (by omega) hW hop (fun M2 h => hnx M2 _ _ (by omega) (by omega) h)
    · refine zs_tabIn C 39 1023 (by decide) dL_law_39 (by decide) (by decide) rfl (by decide) ?_
      obtain ⟨u, hu⟩ : ∃ u : Int, ((xs (i + 3).toNat).toInt = 0 ∧ u = 0) ∨ (¬ (xs (i + 3).toNat).toInt = 0 ∧ u = 1) := by
        by_cases z : (xs (i + 3).toNat).toInt = 0
        · exact ⟨0, Or.inl ⟨z, rfl⟩⟩
        · exact ⟨1, Or.inr ⟨z, rfl⟩⟩
      have hub : u = 0 ∨ u = 1 := by rcases hu with h | h; exact Or.inl h.2; exact Or.inr h.2
      obtain ⟨PW, hW, hop⟩ := h13 n M (xs (i + 1).toNat).toInt (xs (i + 2).toNat).toInt u (hxr _) (hxr _) hub (by omega) hI
      exact law_op13 C hN hX hbl hG hi hi5 hL (by omega) (by omega) hu hW hop (fun M2 h => hnx M2 _ _ (by omega) (by omega) h)
    · refine zs_tabIn C 39 1119 (by decide) dL_law_39 (by decide) (by decide) rfl (by decide) ?_
      obtain ⟨PW, hW, hop⟩ := h14 n M (xs (i + 1).toNat).toInt (xs (i + 2).toNat).toInt (hxr _) (hxr _) (by omega) hI
      exact law_op14 C hN hX hbl hG hi hi5 hL (by omega) (by omega) hW hop (fun M2 h => hnx M2 _ _ (by omega) (by omega) h)
    · refine zs_tabIn C 39 1187 (by decide) dL_law_39 (by decide) (by decide) rfl (by decide) ?_
      obtain ⟨PW, hW, hop⟩ := h15 n M (xs (i + 1).toNat).toInt (hxr _) (by omega) hI
      exact law_op15 C hN hX hbl hG hi hi5 hL (by omega) (by omega) hW hop (fun M2 h => hnx M2 _ _ (by omega) (by omega) h)
    · refine zs_tabIn C 39 1243 (by decide) dL_law_39 (by decide) (by decide) rfl (by decide) ?_
      obtain ⟨PW, hW, hop⟩ := h16 n M (xs (i + 1).toNat).toInt (hxr _) (by omega) hI
      exact law_op16 C hN hX hbl hG hi hi5 hL (by omega) (by omega) hW hop (fun M2 h => hnx M2 _ _ (by omega) (by omega) h)
    · refine zs_tabIn C 39 1299 (by decide) dL_law_39 (by decide) (by decide) rfl (by decide) ?_
      obtain ⟨PW, hW, hop⟩ := h17 n M (xs (i + 1).toNat).toInt (xs (i + 2).toNat).toInt (hxr _) (hxr _) (by omega) hI
      exact law_op17 C hN hX hbl hG hi hi5 hL (by omega) (by omega) hW hop (fun M2 h => hnx M2 _ _ (by omega) (by omega) h)
    · refine zs_tabIn C 39 1367 (by decide) dL_law_39 (by decide) (by decide) rfl (by decide) ?_
      obtain ⟨PW, hW, hop⟩ := h18 n M (xs (i + 1).toNat).toInt (xs (i + 2).toNat).toInt (hxr _) (hxr _) (by omega) hI
      exact law_op18 C hN hX hbl hG hi hi5 hL (by omega) (by omega) hW hop (fun M2 h => hnx M2 _ _ (by omega) (by omega) h)
    · refine zs_tabIn C 39 1435 (by decide) dL_law_39 (by decide) (by decide) rfl (by decide) ?_
      obtain ⟨PW, hW, hop⟩ := h19 n M (xs (i + 1).toNat).toInt (xs (i + 2).toNat).toInt (hxr _) (hxr _) (by omega) hI
      exact law_op19 C hN hX hbl hG hi hi5 hL (by omega) (by omega) hW hop (fun M2 h => hnx M2 _ _ (by omega) (by omega) h)
    · refine zs_tabIn C 39 1503 (by decide) dL_law_39 (by decide) (by decide) rfl (by decide) ?_
      obtain ⟨PW, hW, hop⟩ := h20 n M (xs (i + 1).toNat).toInt (xs (i + 2).toNat).toInt (xs (i + 3).toNat).toInt (hxr _) (hxr _) (hxr _) (by omega) hI
      exact law_op20 C hN hX hbl hG hi hi5 hL (by omega) (by omega) hW hop (fun M2 h => hnx M2 _ _ (by omega) (by omega) h)
    · refine zs_tabIn C 39 1583 (by decide) dL_law_39 (by decide) (by decide) rfl (by decide) ?_
      obtain ⟨he, hend⟩ := h21 n M (by omega) hI
      exact law_op21 C hN hX hbl hG hi hi5 hL (by omega) (by omega) he hend (fun M2 h => hnx M2 _ _ (by omega) (by omega) h)
