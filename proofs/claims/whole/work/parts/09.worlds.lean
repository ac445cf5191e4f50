def XW (cI cZ : ClassId) (q : Nat → Nat) (now rains length poles parts plain key stair air acnt tcnt : Int32) (letters cells kinds frames rainsB abouts stoods kept keptF keptR : Nat → Int32) (seed : Int64) : va_W := [(q 0, .inr (4, [.ref (q 1), .ref (q 2), .ref (q 3), .ref (q 4), .ref (q 12), .ref (q 13), .ref (q 14), .int now, .int rains, .long seed])), (q 1, .inr (2, [.ref (q 5), .int length])), (q 2, .inr (1, [.ref (q 6), .ref (q 7), .int poles, .int parts, .int plain, .int key, .int stair, .int air])), (q 3, .inr (0, [.ref (q 8), .ref (q 9), .int acnt])), (q 4, .inr (3, [.ref (q 10), .ref (q 11), .int tcnt])), (q 5, .inl (cI, 32, .inl letters)), (q 6, .inl (cI, 7, .inl cells)), (q 7, .inl (cI, 7, .inl kinds)), (q 8, .inl (cI, 14, .inl frames)), (q 9, .inl (cI, 14, .inl rainsB)), (q 10, .inl (cI, 6, .inl abouts)), (q 11, .inl (cZ, 6, .inl stoods)), (q 12, .inl (cZ, 2, .inl kept)), (q 13, .inl (cI, 2, .inl keptF)), (q 14, .inl (cI, 2, .inl keptR))]
theorem XW_0 {cI cZ : ClassId} {q : Nat → Nat} {now rains length poles parts plain key stair air acnt tcnt : Int32} {letters cells kinds frames rainsB abouts stoods kept keptF keptR : Nat → Int32} {seed : Int64} : (XW cI cZ q now rains length poles parts plain key stair air acnt tcnt letters cells kinds frames rainsB abouts stoods kept keptF keptR seed)[0]? = some (q 0, .inr (4, [.ref (q 1), .ref (q 2), .ref (q 3), .ref (q 4), .ref (q 12), .ref (q 13), .ref (q 14), .int now, .int rains, .long seed])) := rfl
theorem XW_1 {cI cZ : ClassId} {q : Nat → Nat} {now rains length poles parts plain key stair air acnt tcnt : Int32} {letters cells kinds frames rainsB abouts stoods kept keptF keptR : Nat → Int32} {seed : Int64} : (XW cI cZ q now rains length poles parts plain key stair air acnt tcnt letters cells kinds frames rainsB abouts stoods kept keptF keptR seed)[1]? = some (q 1, .inr (2, [.ref (q 5), .int length])) := rfl
theorem XW_2 {cI cZ : ClassId} {q : Nat → Nat} {now rains length poles parts plain key stair air acnt tcnt : Int32} {letters cells kinds frames rainsB abouts stoods kept keptF keptR : Nat → Int32} {seed : Int64} : (XW cI cZ q now rains length poles parts plain key stair air acnt tcnt letters cells kinds frames rainsB abouts stoods kept keptF keptR seed)[2]? = some (q 2, .inr (1, [.ref (q 6), .ref (q 7), .int poles, .int parts, .int plain, .int key, .int stair, .int air])) := rfl
theorem XW_3 {cI cZ : ClassId} {q : Nat → Nat} {now rains length poles parts plain key stair air acnt tcnt : Int32} {letters cells kinds frames rainsB abouts stoods kept keptF keptR : Nat → Int32} {seed : Int64} : (XW cI cZ q now rains length poles parts plain key stair air acnt tcnt letters cells kinds frames rainsB abouts stoods kept keptF keptR seed)[3]? = some (q 3, .inr (0, [.ref (q 8), .ref (q 9), .int acnt])) := rfl
theorem XW_4 {cI cZ : ClassId} {q : Nat → Nat} {now rains length poles parts plain key stair air acnt tcnt : Int32} {letters cells kinds frames rainsB abouts stoods kept keptF keptR : Nat → Int32} {seed : Int64} : (XW cI cZ q now rains length poles parts plain key stair air acnt tcnt letters cells kinds frames rainsB abouts stoods kept keptF keptR seed)[4]? = some (q 4, .inr (3, [.ref (q 10), .ref (q 11), .int tcnt])) := rfl
theorem XW_5 {cI cZ : ClassId} {q : Nat → Nat} {now rains length poles parts plain key stair air acnt tcnt : Int32} {letters cells kinds frames rainsB abouts stoods kept keptF keptR : Nat → Int32} {seed : Int64} : (XW cI cZ q now rains length poles parts plain key stair air acnt tcnt letters cells kinds frames rainsB abouts stoods kept keptF keptR seed)[5]? = some (q 5, .inl (cI, 32, .inl letters)) := rfl
theorem XW_6 {cI cZ : ClassId} {q : Nat → Nat} {now rains length poles parts plain key stair air acnt tcnt : Int32} {letters cells kinds frames rainsB abouts stoods kept keptF keptR : Nat → Int32} {seed : Int64} : (XW cI cZ q now rains length poles parts plain key stair air acnt tcnt letters cells kinds frames rainsB abouts stoods kept keptF keptR seed)[6]? = some (q 6, .inl (cI, 7, .inl cells)) := rfl
theorem XW_7 {cI cZ : ClassId} {q : Nat → Nat} {now rains length poles parts plain key stair air acnt tcnt : Int32} {letters cells kinds frames rainsB abouts stoods kept keptF keptR : Nat → Int32} {seed : Int64} : (XW cI cZ q now rains length poles parts plain key stair air acnt tcnt letters cells kinds frames rainsB abouts stoods kept keptF keptR seed)[7]? = some (q 7, .inl (cI, 7, .inl kinds)) := rfl
theorem XW_8 {cI cZ : ClassId} {q : Nat → Nat} {now rains length poles parts plain key stair air acnt tcnt : Int32} {letters cells kinds frames rainsB abouts stoods kept keptF keptR : Nat → Int32} {seed : Int64} : (XW cI cZ q now rains length poles parts plain key stair air acnt tcnt letters cells kinds frames rainsB abouts stoods kept keptF keptR seed)[8]? = some (q 8, .inl (cI, 14, .inl frames)) := rfl
theorem XW_9 {cI cZ : ClassId} {q : Nat → Nat} {now rains length poles parts plain key stair air acnt tcnt : Int32} {letters cells kinds frames rainsB abouts stoods kept keptF keptR : Nat → Int32} {seed : Int64} : (XW cI cZ q now rains length poles parts plain key stair air acnt tcnt letters cells kinds frames rainsB abouts stoods kept keptF keptR seed)[9]? = some (q 9, .inl (cI, 14, .inl rainsB)) := rfl
theorem XW_10 {cI cZ : ClassId} {q : Nat → Nat} {now rains length poles parts plain key stair air acnt tcnt : Int32} {letters cells kinds frames rainsB abouts stoods kept keptF keptR : Nat → Int32} {seed : Int64} : (XW cI cZ q now rains length poles parts plain key stair air acnt tcnt letters cells kinds frames rainsB abouts stoods kept keptF keptR seed)[10]? = some (q 10, .inl (cI, 6, .inl abouts)) := rfl
theorem XW_11 {cI cZ : ClassId} {q : Nat → Nat} {now rains length poles parts plain key stair air acnt tcnt : Int32} {letters cells kinds frames rainsB abouts stoods kept keptF keptR : Nat → Int32} {seed : Int64} : (XW cI cZ q now rains length poles parts plain key stair air acnt tcnt letters cells kinds frames rainsB abouts stoods kept keptF keptR seed)[11]? = some (q 11, .inl (cZ, 6, .inl stoods)) := rfl
theorem XW_12 {cI cZ : ClassId} {q : Nat → Nat} {now rains length poles parts plain key stair air acnt tcnt : Int32} {letters cells kinds frames rainsB abouts stoods kept keptF keptR : Nat → Int32} {seed : Int64} : (XW cI cZ q now rains length poles parts plain key stair air acnt tcnt letters cells kinds frames rainsB abouts stoods kept keptF keptR seed)[12]? = some (q 12, .inl (cZ, 2, .inl kept)) := rfl
theorem XW_13 {cI cZ : ClassId} {q : Nat → Nat} {now rains length poles parts plain key stair air acnt tcnt : Int32} {letters cells kinds frames rainsB abouts stoods kept keptF keptR : Nat → Int32} {seed : Int64} : (XW cI cZ q now rains length poles parts plain key stair air acnt tcnt letters cells kinds frames rainsB abouts stoods kept keptF keptR seed)[13]? = some (q 13, .inl (cI, 2, .inl keptF)) := rfl
theorem XW_14 {cI cZ : ClassId} {q : Nat → Nat} {now rains length poles parts plain key stair air acnt tcnt : Int32} {letters cells kinds frames rainsB abouts stoods kept keptF keptR : Nat → Int32} {seed : Int64} : (XW cI cZ q now rains length poles parts plain key stair air acnt tcnt letters cells kinds frames rainsB abouts stoods kept keptF keptR seed)[14]? = some (q 14, .inl (cI, 2, .inl keptR)) := rfl
def PW (cI cZ : ClassId) (q : Nat → Nat) (poles parts plain key stair air : Int32) (cells kinds : Nat → Int32) : va_W := [(q 2, .inr (1, [.ref (q 6), .ref (q 7), .int poles, .int parts, .int plain, .int key, .int stair, .int air])), (q 6, .inl (cI, 7, .inl cells)), (q 7, .inl (cI, 7, .inl kinds))]
theorem PW_0 {cI cZ : ClassId} {q : Nat → Nat} {poles parts plain key stair air : Int32} {cells kinds : Nat → Int32} : (PW cI cZ q poles parts plain key stair air cells kinds)[0]? = some (q 2, .inr (1, [.ref (q 6), .ref (q 7), .int poles, .int parts, .int plain, .int key, .int stair, .int air])) := rfl
theorem PW_1 {cI cZ : ClassId} {q : Nat → Nat} {poles parts plain key stair air : Int32} {cells kinds : Nat → Int32} : (PW cI cZ q poles parts plain key stair air cells kinds)[1]? = some (q 6, .inl (cI, 7, .inl cells)) := rfl
theorem PW_2 {cI cZ : ClassId} {q : Nat → Nat} {poles parts plain key stair air : Int32} {cells kinds : Nat → Int32} : (PW cI cZ q poles parts plain key stair air cells kinds)[2]? = some (q 7, .inl (cI, 7, .inl kinds)) := rfl
def TW (cI cZ : ClassId) (q : Nat → Nat) (length : Int32) (letters : Nat → Int32) : va_W := [(q 1, .inr (2, [.ref (q 5), .int length])), (q 5, .inl (cI, 32, .inl letters))]
theorem TW_0 {cI cZ : ClassId} {q : Nat → Nat} {length : Int32} {letters : Nat → Int32} : (TW cI cZ q length letters)[0]? = some (q 1, .inr (2, [.ref (q 5), .int length])) := rfl
theorem TW_1 {cI cZ : ClassId} {q : Nat → Nat} {length : Int32} {letters : Nat → Int32} : (TW cI cZ q length letters)[1]? = some (q 5, .inl (cI, 32, .inl letters)) := rfl
def AW (cI cZ : ClassId) (q : Nat → Nat) (acnt : Int32) (frames rainsB : Nat → Int32) : va_W := [(q 3, .inr (0, [.ref (q 8), .ref (q 9), .int acnt])), (q 8, .inl (cI, 14, .inl frames)), (q 9, .inl (cI, 14, .inl rainsB))]
theorem AW_0 {cI cZ : ClassId} {q : Nat → Nat} {acnt : Int32} {frames rainsB : Nat → Int32} : (AW cI cZ q acnt frames rainsB)[0]? = some (q 3, .inr (0, [.ref (q 8), .ref (q 9), .int acnt])) := rfl
theorem AW_1 {cI cZ : ClassId} {q : Nat → Nat} {acnt : Int32} {frames rainsB : Nat → Int32} : (AW cI cZ q acnt frames rainsB)[1]? = some (q 8, .inl (cI, 14, .inl frames)) := rfl
theorem AW_2 {cI cZ : ClassId} {q : Nat → Nat} {acnt : Int32} {frames rainsB : Nat → Int32} : (AW cI cZ q acnt frames rainsB)[2]? = some (q 9, .inl (cI, 14, .inl rainsB)) := rfl
def RW (cI cZ : ClassId) (q : Nat → Nat) (tcnt : Int32) (abouts stoods : Nat → Int32) : va_W := [(q 4, .inr (3, [.ref (q 10), .ref (q 11), .int tcnt])), (q 10, .inl (cI, 6, .inl abouts)), (q 11, .inl (cZ, 6, .inl stoods))]
theorem RW_0 {cI cZ : ClassId} {q : Nat → Nat} {tcnt : Int32} {abouts stoods : Nat → Int32} : (RW cI cZ q tcnt abouts stoods)[0]? = some (q 4, .inr (3, [.ref (q 10), .ref (q 11), .int tcnt])) := rfl
theorem RW_1 {cI cZ : ClassId} {q : Nat → Nat} {tcnt : Int32} {abouts stoods : Nat → Int32} : (RW cI cZ q tcnt abouts stoods)[1]? = some (q 10, .inl (cI, 6, .inl abouts)) := rfl
theorem RW_2 {cI cZ : ClassId} {q : Nat → Nat} {tcnt : Int32} {abouts stoods : Nat → Int32} : (RW cI cZ q tcnt abouts stoods)[2]? = some (q 11, .inl (cZ, 6, .inl stoods)) := rfl
def MW (cI cZ : ClassId) (q : Nat → Nat) (thrown textSize place stock parts readStock readCells readParts acts tried soonMany soonWhich kindMany kindFirst restMany restFirst : Int32) (text lies kind readPart page trial book kept isKept triedAbout triedIs gains value : Nat → Int32) (seed : Int64) : va_W := [(q 0, .inr (5, [.int thrown, .ref (q 1), .int textSize, .int place, .int stock, .int parts, .ref (q 2), .ref (q 3), .int readStock, .int readCells, .int readParts, .ref (q 4), .ref (q 5), .ref (q 6), .ref (q 7), .int acts, .ref (q 8), .ref (q 9), .int tried, .ref (q 10), .ref (q 11), .long seed, .int soonMany, .int soonWhich, .int kindMany, .int kindFirst, .int restMany, .int restFirst, .ref (q 12), .ref (q 13)])), (q 1, .inl (cI, 32, .inl text)), (q 2, .inl (cI, 7, .inl lies)), (q 3, .inl (cI, 7, .inl kind)), (q 4, .inl (cI, 14, .inl readPart)), (q 5, .inl (cI, 7, .inl page)), (q 6, .inl (cI, 7, .inl trial)), (q 7, .inl (cI, 98, .inl book)), (q 8, .inl (cI, 14, .inl kept)), (q 9, .inl (cZ, 2, .inl isKept)), (q 10, .inl (cI, 6, .inl triedAbout)), (q 11, .inl (cI, 6, .inl triedIs)), (q 12, .inl (cI, 18, .inl gains)), (q 13, .inl (cI, 128, .inl value))]
theorem MW_0 {cI cZ : ClassId} {q : Nat → Nat} {thrown textSize place stock parts readStock readCells readParts acts tried soonMany soonWhich kindMany kindFirst restMany restFirst : Int32} {text lies kind readPart page trial book kept isKept triedAbout triedIs gains value : Nat → Int32} {seed : Int64} : (MW cI cZ q thrown textSize place stock parts readStock readCells readParts acts tried soonMany soonWhich kindMany kindFirst restMany restFirst text lies kind readPart page trial book kept isKept triedAbout triedIs gains value seed)[0]? = some (q 0, .inr (5, [.int thrown, .ref (q 1), .int textSize, .int place, .int stock, .int parts, .ref (q 2), .ref (q 3), .int readStock, .int readCells, .int readParts, .ref (q 4), .ref (q 5), .ref (q 6), .ref (q 7), .int acts, .ref (q 8), .ref (q 9), .int tried, .ref (q 10), .ref (q 11), .long seed, .int soonMany, .int soonWhich, .int kindMany, .int kindFirst, .int restMany, .int restFirst, .ref (q 12), .ref (q 13)])) := rfl
theorem MW_1 {cI cZ : ClassId} {q : Nat → Nat} {thrown textSize place stock parts readStock readCells readParts acts tried soonMany soonWhich kindMany kindFirst restMany restFirst : Int32} {text lies kind readPart page trial book kept isKept triedAbout triedIs gains value : Nat → Int32} {seed : Int64} : (MW cI cZ q thrown textSize place stock parts readStock readCells readParts acts tried soonMany soonWhich kindMany kindFirst restMany restFirst text lies kind readPart page trial book kept isKept triedAbout triedIs gains value seed)[1]? = some (q 1, .inl (cI, 32, .inl text)) := rfl
theorem MW_2 {cI cZ : ClassId} {q : Nat → Nat} {thrown textSize place stock parts readStock readCells readParts acts tried soonMany soonWhich kindMany kindFirst restMany restFirst : Int32} {text lies kind readPart page trial book kept isKept triedAbout triedIs gains value : Nat → Int32} {seed : Int64} : (MW cI cZ q thrown textSize place stock parts readStock readCells readParts acts tried soonMany soonWhich kindMany kindFirst restMany restFirst text lies kind readPart page trial book kept isKept triedAbout triedIs gains value seed)[2]? = some (q 2, .inl (cI, 7, .inl lies)) := rfl
theorem MW_3 {cI cZ : ClassId} {q : Nat → Nat} {thrown textSize place stock parts readStock readCells readParts acts tried soonMany soonWhich kindMany kindFirst restMany restFirst : Int32} {text lies kind readPart page trial book kept isKept triedAbout triedIs gains value : Nat → Int32} {seed : Int64} : (MW cI cZ q thrown textSize place stock parts readStock readCells readParts acts tried soonMany soonWhich kindMany kindFirst restMany restFirst text lies kind readPart page trial book kept isKept triedAbout triedIs gains value seed)[3]? = some (q 3, .inl (cI, 7, .inl kind)) := rfl
theorem MW_4 {cI cZ : ClassId} {q : Nat → Nat} {thrown textSize place stock parts readStock readCells readParts acts tried soonMany soonWhich kindMany kindFirst restMany restFirst : Int32} {text lies kind readPart page trial book kept isKept triedAbout triedIs gains value : Nat → Int32} {seed : Int64} : (MW cI cZ q thrown textSize place stock parts readStock readCells readParts acts tried soonMany soonWhich kindMany kindFirst restMany restFirst text lies kind readPart page trial book kept isKept triedAbout triedIs gains value seed)[4]? = some (q 4, .inl (cI, 14, .inl readPart)) := rfl
theorem MW_5 {cI cZ : ClassId} {q : Nat → Nat} {thrown textSize place stock parts readStock readCells readParts acts tried soonMany soonWhich kindMany kindFirst restMany restFirst : Int32} {text lies kind readPart page trial book kept isKept triedAbout triedIs gains value : Nat → Int32} {seed : Int64} : (MW cI cZ q thrown textSize place stock parts readStock readCells readParts acts tried soonMany soonWhich kindMany kindFirst restMany restFirst text lies kind readPart page trial book kept isKept triedAbout triedIs gains value seed)[5]? = some (q 5, .inl (cI, 7, .inl page)) := rfl
theorem MW_6 {cI cZ : ClassId} {q : Nat → Nat} {thrown textSize place stock parts readStock readCells readParts acts tried soonMany soonWhich kindMany kindFirst restMany restFirst : Int32} {text lies kind readPart page trial book kept isKept triedAbout triedIs gains value : Nat → Int32} {seed : Int64} : (MW cI cZ q thrown textSize place stock parts readStock readCells readParts acts tried soonMany soonWhich kindMany kindFirst restMany restFirst text lies kind readPart page trial book kept isKept triedAbout triedIs gains value seed)[6]? = some (q 6, .inl (cI, 7, .inl trial)) := rfl
theorem MW_7 {cI cZ : ClassId} {q : Nat → Nat} {thrown textSize place stock parts readStock readCells readParts acts tried soonMany soonWhich kindMany kindFirst restMany restFirst : Int32} {text lies kind readPart page trial book kept isKept triedAbout triedIs gains value : Nat → Int32} {seed : Int64} : (MW cI cZ q thrown textSize place stock parts readStock readCells readParts acts tried soonMany soonWhich kindMany kindFirst restMany restFirst text lies kind readPart page trial book kept isKept triedAbout triedIs gains value seed)[7]? = some (q 7, .inl (cI, 98, .inl book)) := rfl
theorem MW_8 {cI cZ : ClassId} {q : Nat → Nat} {thrown textSize place stock parts readStock readCells readParts acts tried soonMany soonWhich kindMany kindFirst restMany restFirst : Int32} {text lies kind readPart page trial book kept isKept triedAbout triedIs gains value : Nat → Int32} {seed : Int64} : (MW cI cZ q thrown textSize place stock parts readStock readCells readParts acts tried soonMany soonWhich kindMany kindFirst restMany restFirst text lies kind readPart page trial book kept isKept triedAbout triedIs gains value seed)[8]? = some (q 8, .inl (cI, 14, .inl kept)) := rfl
theorem MW_9 {cI cZ : ClassId} {q : Nat → Nat} {thrown textSize place stock parts readStock readCells readParts acts tried soonMany soonWhich kindMany kindFirst restMany restFirst : Int32} {text lies kind readPart page trial book kept isKept triedAbout triedIs gains value : Nat → Int32} {seed : Int64} : (MW cI cZ q thrown textSize place stock parts readStock readCells readParts acts tried soonMany soonWhich kindMany kindFirst restMany restFirst text lies kind readPart page trial book kept isKept triedAbout triedIs gains value seed)[9]? = some (q 9, .inl (cZ, 2, .inl isKept)) := rfl
theorem MW_10 {cI cZ : ClassId} {q : Nat → Nat} {thrown textSize place stock parts readStock readCells readParts acts tried soonMany soonWhich kindMany kindFirst restMany restFirst : Int32} {text lies kind readPart page trial book kept isKept triedAbout triedIs gains value : Nat → Int32} {seed : Int64} : (MW cI cZ q thrown textSize place stock parts readStock readCells readParts acts tried soonMany soonWhich kindMany kindFirst restMany restFirst text lies kind readPart page trial book kept isKept triedAbout triedIs gains value seed)[10]? = some (q 10, .inl (cI, 6, .inl triedAbout)) := rfl
theorem MW_11 {cI cZ : ClassId} {q : Nat → Nat} {thrown textSize place stock parts readStock readCells readParts acts tried soonMany soonWhich kindMany kindFirst restMany restFirst : Int32} {text lies kind readPart page trial book kept isKept triedAbout triedIs gains value : Nat → Int32} {seed : Int64} : (MW cI cZ q thrown textSize place stock parts readStock readCells readParts acts tried soonMany soonWhich kindMany kindFirst restMany restFirst text lies kind readPart page trial book kept isKept triedAbout triedIs gains value seed)[11]? = some (q 11, .inl (cI, 6, .inl triedIs)) := rfl
theorem MW_12 {cI cZ : ClassId} {q : Nat → Nat} {thrown textSize place stock parts readStock readCells readParts acts tried soonMany soonWhich kindMany kindFirst restMany restFirst : Int32} {text lies kind readPart page trial book kept isKept triedAbout triedIs gains value : Nat → Int32} {seed : Int64} : (MW cI cZ q thrown textSize place stock parts readStock readCells readParts acts tried soonMany soonWhich kindMany kindFirst restMany restFirst text lies kind readPart page trial book kept isKept triedAbout triedIs gains value seed)[12]? = some (q 12, .inl (cI, 18, .inl gains)) := rfl
theorem MW_13 {cI cZ : ClassId} {q : Nat → Nat} {thrown textSize place stock parts readStock readCells readParts acts tried soonMany soonWhich kindMany kindFirst restMany restFirst : Int32} {text lies kind readPart page trial book kept isKept triedAbout triedIs gains value : Nat → Int32} {seed : Int64} : (MW cI cZ q thrown textSize place stock parts readStock readCells readParts acts tried soonMany soonWhich kindMany kindFirst restMany restFirst text lies kind readPart page trial book kept isKept triedAbout triedIs gains value seed)[13]? = some (q 13, .inl (cI, 128, .inl value)) := rfl
theorem XW_P {D : va_G} {H : Heap} {cI cZ : ClassId} {q : Nat → Nat} {now rains length poles parts plain key stair air acnt tcnt : Int32} {letters cells kinds frames rainsB abouts stoods kept keptF keptR : Nat → Int32} {seed : Int64} (h : va_P D vwCl (XW cI cZ q now rains length poles parts plain key stair air acnt tcnt letters cells kinds frames rainsB abouts stoods kept keptF keptR seed) H) : va_P D vwCl (PW cI cZ q poles parts plain key stair air cells kinds) H := h.sub [2, 6, 7] rfl
theorem XW_T {D : va_G} {H : Heap} {cI cZ : ClassId} {q : Nat → Nat} {now rains length poles parts plain key stair air acnt tcnt : Int32} {letters cells kinds frames rainsB abouts stoods kept keptF keptR : Nat → Int32} {seed : Int64} (h : va_P D vwCl (XW cI cZ q now rains length poles parts plain key stair air acnt tcnt letters cells kinds frames rainsB abouts stoods kept keptF keptR seed) H) : va_P D vwCl (TW cI cZ q length letters) H := h.sub [1, 5] rfl
theorem XW_A {D : va_G} {H : Heap} {cI cZ : ClassId} {q : Nat → Nat} {now rains length poles parts plain key stair air acnt tcnt : Int32} {letters cells kinds frames rainsB abouts stoods kept keptF keptR : Nat → Int32} {seed : Int64} (h : va_P D vwCl (XW cI cZ q now rains length poles parts plain key stair air acnt tcnt letters cells kinds frames rainsB abouts stoods kept keptF keptR seed) H) : va_P D vwCl (AW cI cZ q acnt frames rainsB) H := h.sub [3, 8, 9] rfl
theorem XW_R {D : va_G} {H : Heap} {cI cZ : ClassId} {q : Nat → Nat} {now rains length poles parts plain key stair air acnt tcnt : Int32} {letters cells kinds frames rainsB abouts stoods kept keptF keptR : Nat → Int32} {seed : Int64} (h : va_P D vwCl (XW cI cZ q now rains length poles parts plain key stair air acnt tcnt letters cells kinds frames rainsB abouts stoods kept keptF keptR seed) H) : va_P D vwCl (RW cI cZ q tcnt abouts stoods) H := h.sub [4, 10, 11] rfl
abbrev tyL (cI cZ : ClassId) : List (ClassId × FieldType) := [(cI, .int), (cZ, .boolean)]
theorem va_P_nil {D : va_G} {H : Heap} : va_P D vwCl [] H := fun k q h => by simp at h
theorem cl_0 : (0 : Int32).toNatClampNeg = 0 := by decide +kernel
theorem cl_1 : (1 : Int32).toNatClampNeg = 1 := by decide +kernel
theorem cl_2 : (2 : Int32).toNatClampNeg = 2 := by decide +kernel
theorem cl_3 : (3 : Int32).toNatClampNeg = 3 := by decide +kernel
theorem cl_4 : (4 : Int32).toNatClampNeg = 4 := by decide +kernel
theorem cl_5 : (5 : Int32).toNatClampNeg = 5 := by decide +kernel
theorem cl_6 : (6 : Int32).toNatClampNeg = 6 := by decide +kernel
theorem cl_7 : (7 : Int32).toNatClampNeg = 7 := by decide +kernel
theorem cl_8 : (8 : Int32).toNatClampNeg = 8 := by decide +kernel
theorem cl_9 : (9 : Int32).toNatClampNeg = 9 := by decide +kernel
theorem cl_10 : (10 : Int32).toNatClampNeg = 10 := by decide +kernel
theorem cl_11 : (11 : Int32).toNatClampNeg = 11 := by decide +kernel
theorem cl_12 : (12 : Int32).toNatClampNeg = 12 := by decide +kernel
theorem cl_13 : (13 : Int32).toNatClampNeg = 13 := by decide +kernel
theorem cl_14 : (14 : Int32).toNatClampNeg = 14 := by decide +kernel
theorem cl_15 : (15 : Int32).toNatClampNeg = 15 := by decide +kernel
theorem cl_16 : (16 : Int32).toNatClampNeg = 16 := by decide +kernel
theorem cl_17 : (17 : Int32).toNatClampNeg = 17 := by decide +kernel
theorem cl_18 : (18 : Int32).toNatClampNeg = 18 := by decide +kernel
theorem cl_19 : (19 : Int32).toNatClampNeg = 19 := by decide +kernel
theorem cl_20 : (20 : Int32).toNatClampNeg = 20 := by decide +kernel
theorem cl_21 : (21 : Int32).toNatClampNeg = 21 := by decide +kernel
theorem cl_22 : (22 : Int32).toNatClampNeg = 22 := by decide +kernel
theorem cl_23 : (23 : Int32).toNatClampNeg = 23 := by decide +kernel
theorem cl_24 : (24 : Int32).toNatClampNeg = 24 := by decide +kernel
theorem cl_25 : (25 : Int32).toNatClampNeg = 25 := by decide +kernel
theorem cl_26 : (26 : Int32).toNatClampNeg = 26 := by decide +kernel
theorem cl_27 : (27 : Int32).toNatClampNeg = 27 := by decide +kernel
theorem cl_28 : (28 : Int32).toNatClampNeg = 28 := by decide +kernel
theorem cl_29 : (29 : Int32).toNatClampNeg = 29 := by decide +kernel
theorem cl_30 : (30 : Int32).toNatClampNeg = 30 := by decide +kernel
theorem cl_31 : (31 : Int32).toNatClampNeg = 31 := by decide +kernel
theorem cl_32 : (32 : Int32).toNatClampNeg = 32 := by decide +kernel
theorem cl_33 : (33 : Int32).toNatClampNeg = 33 := by decide +kernel
theorem cl_34 : (34 : Int32).toNatClampNeg = 34 := by decide +kernel
theorem cl_35 : (35 : Int32).toNatClampNeg = 35 := by decide +kernel
theorem cl_36 : (36 : Int32).toNatClampNeg = 36 := by decide +kernel
theorem cl_37 : (37 : Int32).toNatClampNeg = 37 := by decide +kernel
theorem cl_38 : (38 : Int32).toNatClampNeg = 38 := by decide +kernel
theorem cl_39 : (39 : Int32).toNatClampNeg = 39 := by decide +kernel
theorem cl_40 : (40 : Int32).toNatClampNeg = 40 := by decide +kernel
theorem cl_41 : (41 : Int32).toNatClampNeg = 41 := by decide +kernel
theorem cl_42 : (42 : Int32).toNatClampNeg = 42 := by decide +kernel
theorem cl_43 : (43 : Int32).toNatClampNeg = 43 := by decide +kernel
theorem cl_44 : (44 : Int32).toNatClampNeg = 44 := by decide +kernel
theorem cl_45 : (45 : Int32).toNatClampNeg = 45 := by decide +kernel
theorem cl_46 : (46 : Int32).toNatClampNeg = 46 := by decide +kernel
theorem cl_47 : (47 : Int32).toNatClampNeg = 47 := by decide +kernel
theorem cl_48 : (48 : Int32).toNatClampNeg = 48 := by decide +kernel
theorem cl_49 : (49 : Int32).toNatClampNeg = 49 := by decide +kernel
theorem cl_50 : (50 : Int32).toNatClampNeg = 50 := by decide +kernel
theorem cl_51 : (51 : Int32).toNatClampNeg = 51 := by decide +kernel
theorem cl_52 : (52 : Int32).toNatClampNeg = 52 := by decide +kernel
theorem cl_53 : (53 : Int32).toNatClampNeg = 53 := by decide +kernel
theorem cl_54 : (54 : Int32).toNatClampNeg = 54 := by decide +kernel
theorem cl_55 : (55 : Int32).toNatClampNeg = 55 := by decide +kernel
theorem cl_56 : (56 : Int32).toNatClampNeg = 56 := by decide +kernel
theorem cl_57 : (57 : Int32).toNatClampNeg = 57 := by decide +kernel
theorem cl_58 : (58 : Int32).toNatClampNeg = 58 := by decide +kernel
theorem cl_59 : (59 : Int32).toNatClampNeg = 59 := by decide +kernel
theorem cl_60 : (60 : Int32).toNatClampNeg = 60 := by decide +kernel
theorem cl_61 : (61 : Int32).toNatClampNeg = 61 := by decide +kernel
theorem cl_62 : (62 : Int32).toNatClampNeg = 62 := by decide +kernel
theorem cl_63 : (63 : Int32).toNatClampNeg = 63 := by decide +kernel
theorem cl_64 : (64 : Int32).toNatClampNeg = 64 := by decide +kernel
theorem cl_65 : (65 : Int32).toNatClampNeg = 65 := by decide +kernel
theorem cl_66 : (66 : Int32).toNatClampNeg = 66 := by decide +kernel
theorem cl_67 : (67 : Int32).toNatClampNeg = 67 := by decide +kernel
theorem cl_68 : (68 : Int32).toNatClampNeg = 68 := by decide +kernel
theorem cl_69 : (69 : Int32).toNatClampNeg = 69 := by decide +kernel
theorem cl_70 : (70 : Int32).toNatClampNeg = 70 := by decide +kernel
theorem cl_71 : (71 : Int32).toNatClampNeg = 71 := by decide +kernel
theorem cl_72 : (72 : Int32).toNatClampNeg = 72 := by decide +kernel
theorem cl_73 : (73 : Int32).toNatClampNeg = 73 := by decide +kernel
theorem cl_74 : (74 : Int32).toNatClampNeg = 74 := by decide +kernel
theorem cl_75 : (75 : Int32).toNatClampNeg = 75 := by decide +kernel
theorem cl_76 : (76 : Int32).toNatClampNeg = 76 := by decide +kernel
theorem cl_77 : (77 : Int32).toNatClampNeg = 77 := by decide +kernel
theorem cl_78 : (78 : Int32).toNatClampNeg = 78 := by decide +kernel
theorem cl_79 : (79 : Int32).toNatClampNeg = 79 := by decide +kernel
theorem cl_80 : (80 : Int32).toNatClampNeg = 80 := by decide +kernel
theorem cl_81 : (81 : Int32).toNatClampNeg = 81 := by decide +kernel
theorem cl_82 : (82 : Int32).toNatClampNeg = 82 := by decide +kernel
theorem cl_83 : (83 : Int32).toNatClampNeg = 83 := by decide +kernel
theorem cl_84 : (84 : Int32).toNatClampNeg = 84 := by decide +kernel
theorem cl_85 : (85 : Int32).toNatClampNeg = 85 := by decide +kernel
theorem cl_86 : (86 : Int32).toNatClampNeg = 86 := by decide +kernel
theorem cl_87 : (87 : Int32).toNatClampNeg = 87 := by decide +kernel
theorem cl_88 : (88 : Int32).toNatClampNeg = 88 := by decide +kernel
theorem cl_89 : (89 : Int32).toNatClampNeg = 89 := by decide +kernel
theorem cl_90 : (90 : Int32).toNatClampNeg = 90 := by decide +kernel
theorem cl_91 : (91 : Int32).toNatClampNeg = 91 := by decide +kernel
theorem cl_92 : (92 : Int32).toNatClampNeg = 92 := by decide +kernel
theorem cl_93 : (93 : Int32).toNatClampNeg = 93 := by decide +kernel
theorem cl_94 : (94 : Int32).toNatClampNeg = 94 := by decide +kernel
theorem cl_95 : (95 : Int32).toNatClampNeg = 95 := by decide +kernel
theorem cl_96 : (96 : Int32).toNatClampNeg = 96 := by decide +kernel
theorem cl_97 : (97 : Int32).toNatClampNeg = 97 := by decide +kernel
theorem cl_98 : (98 : Int32).toNatClampNeg = 98 := by decide +kernel
theorem cl_99 : (99 : Int32).toNatClampNeg = 99 := by decide +kernel
theorem cl_100 : (100 : Int32).toNatClampNeg = 100 := by decide +kernel
theorem cl_101 : (101 : Int32).toNatClampNeg = 101 := by decide +kernel
theorem cl_102 : (102 : Int32).toNatClampNeg = 102 := by decide +kernel
theorem cl_103 : (103 : Int32).toNatClampNeg = 103 := by decide +kernel
theorem cl_104 : (104 : Int32).toNatClampNeg = 104 := by decide +kernel
theorem cl_105 : (105 : Int32).toNatClampNeg = 105 := by decide +kernel
theorem cl_106 : (106 : Int32).toNatClampNeg = 106 := by decide +kernel
theorem cl_107 : (107 : Int32).toNatClampNeg = 107 := by decide +kernel
theorem cl_108 : (108 : Int32).toNatClampNeg = 108 := by decide +kernel
theorem cl_109 : (109 : Int32).toNatClampNeg = 109 := by decide +kernel
theorem cl_110 : (110 : Int32).toNatClampNeg = 110 := by decide +kernel
theorem cl_111 : (111 : Int32).toNatClampNeg = 111 := by decide +kernel
theorem cl_112 : (112 : Int32).toNatClampNeg = 112 := by decide +kernel
theorem cl_113 : (113 : Int32).toNatClampNeg = 113 := by decide +kernel
theorem cl_114 : (114 : Int32).toNatClampNeg = 114 := by decide +kernel
theorem cl_115 : (115 : Int32).toNatClampNeg = 115 := by decide +kernel
theorem cl_116 : (116 : Int32).toNatClampNeg = 116 := by decide +kernel
theorem cl_117 : (117 : Int32).toNatClampNeg = 117 := by decide +kernel
theorem cl_118 : (118 : Int32).toNatClampNeg = 118 := by decide +kernel
theorem cl_119 : (119 : Int32).toNatClampNeg = 119 := by decide +kernel
theorem cl_120 : (120 : Int32).toNatClampNeg = 120 := by decide +kernel
theorem cl_121 : (121 : Int32).toNatClampNeg = 121 := by decide +kernel
theorem cl_122 : (122 : Int32).toNatClampNeg = 122 := by decide +kernel
theorem cl_123 : (123 : Int32).toNatClampNeg = 123 := by decide +kernel
theorem cl_124 : (124 : Int32).toNatClampNeg = 124 := by decide +kernel
theorem cl_125 : (125 : Int32).toNatClampNeg = 125 := by decide +kernel
theorem cl_126 : (126 : Int32).toNatClampNeg = 126 := by decide +kernel
theorem cl_127 : (127 : Int32).toNatClampNeg = 127 := by decide +kernel
theorem nI_up (i : Nat) : nI i + Int32.ofInt 1 = nI (i + 1) := nI_1 i
def jr (x y : Int32) : Int32 := x - x / y * y
def jrl (x y : Int64) : Int64 := x - x / y * y
def shl (x y : Int32) : Int32 := x <<< (y &&& 31)
def shr (x y : Int32) : Int32 := x >>> (y &&& 31)
def ush (x y : Int32) : Int32 := (x.toUInt32 >>> (y.toUInt32 &&& Int32.toUInt32 31)).toInt32
def ushl (x : Int64) (y : Int32) : Int64 := (x.toUInt64 >>> (y.toInt64.toUInt64 &&& Int64.toUInt64 63)).toInt64
theorem tbX0 : ∀ w ∈ u_ws RX0 TX0 3, w ∈ tb := by decide +kernel
theorem tbX2 : ∀ w ∈ u_ws RX2 TX2 8, w ∈ tb := by decide +kernel
theorem tbX3 : ∀ w ∈ u_ws RX3 TX3 2, w ∈ tb := by decide +kernel
theorem tbX4 : ∀ w ∈ u_ws RX4 TX4 3, w ∈ tb := by decide +kernel
theorem tbX5 : ∀ w ∈ u_ws RX5 TX5 10, w ∈ tb := by decide +kernel
theorem tbX6 : ∀ w ∈ u_ws RX6 TX6 30, w ∈ tb := by decide +kernel
