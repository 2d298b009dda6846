theorem mDc0 : mCd0.all (mEntC (mM 0).2.2.1) = true := by decide +kernel
theorem mDc1 : mCd1.all (mEntC (mM 1).2.2.1) = true := by decide +kernel
theorem mDc2 : mCd2.all (mEntC (mM 2).2.2.1) = true := by decide +kernel
theorem mDc3 : mCd3.all (mEntC (mM 3).2.2.1) = true := by decide +kernel
theorem mDc4 : mCd4.all (mEntC (mM 4).2.2.1) = true := by decide +kernel
theorem mDc5 : mCd5.all (mEntC (mM 5).2.2.1) = true := by decide +kernel
theorem mDc6 : mCd6.all (mEntC (mM 6).2.2.1) = true := by decide +kernel
theorem mDc7 : mCd7.all (mEntC (mM 7).2.2.1) = true := by decide +kernel
theorem mDc8 : mCd8.all (mEntC (mM 8).2.2.1) = true := by decide +kernel
theorem mDc9 : mCd9.all (mEntC (mM 9).2.2.1) = true := by decide +kernel
theorem mDc10 : mCd10.all (mEntC (mM 10).2.2.1) = true := by decide +kernel
theorem mDc11 : mCd11.all (mEntC (mM 11).2.2.1) = true := by decide +kernel
theorem mDc12 : mCd12.all (mEntC (mM 12).2.2.1) = true := by decide +kernel
theorem mDc13 : mCd13.all (mEntC (mM 13).2.2.1) = true := by decide +kernel
theorem mDc14 : mCd14.all (mEntC (mM 14).2.2.1) = true := by decide +kernel
theorem mDc15 : mCd15.all (mEntC (mM 15).2.2.1) = true := by decide +kernel
theorem mDc16 : mCd16.all (mEntC (mM 16).2.2.1) = true := by decide +kernel
theorem mDc17 : mCd17.all (mEntC (mM 17).2.2.1) = true := by decide +kernel
theorem mDc18 : mCd18.all (mEntC (mM 18).2.2.1) = true := by decide +kernel
theorem mDc19 : mCd19.all (mEntC (mM 19).2.2.1) = true := by decide +kernel
theorem mDc20 : mCd20.all (mEntC (mM 20).2.2.1) = true := by decide +kernel
theorem mDc21 : mCd21.all (mEntC (mM 21).2.2.1) = true := by decide +kernel
theorem mDc22 : mCd22.all (mEntC (mM 22).2.2.1) = true := by decide +kernel
theorem mDc23 : mCd23.all (mEntC (mM 23).2.2.1) = true := by decide +kernel
theorem mDc24 : mCd24.all (mEntC (mM 24).2.2.1) = true := by decide +kernel
theorem mDc25 : mCd25.all (mEntC (mM 25).2.2.1) = true := by decide +kernel
theorem mDc26 : mCd26.all (mEntC (mM 26).2.2.1) = true := by decide +kernel
theorem mDc27 : mCd27.all (mEntC (mM 27).2.2.1) = true := by decide +kernel
theorem mDc28 : mCd28.all (mEntC (mM 28).2.2.1) = true := by decide +kernel
theorem mDc29 : mCd29.all (mEntC (mM 29).2.2.1) = true := by decide +kernel
theorem mDc30 : mCd30.all (mEntC (mM 30).2.2.1) = true := by decide +kernel
theorem mDc31 : mCd31.all (mEntC (mM 31).2.2.1) = true := by decide +kernel
theorem mDc32 : mCd32.all (mEntC (mM 32).2.2.1) = true := by decide +kernel
theorem mDc33 : mCd33.all (mEntC (mM 33).2.2.1) = true := by decide +kernel
theorem mDc34 : mCd34.all (mEntC (mM 34).2.2.1) = true := by decide +kernel
theorem mDc35 : mCd35.all (mEntC (mM 35).2.2.1) = true := by decide +kernel
theorem mDc36 : mCd36.all (mEntC (mM 36).2.2.1) = true := by decide +kernel
theorem mDc37 : mCd37.all (mEntC (mM 37).2.2.1) = true := by decide +kernel
theorem mDc38 : mCd38.all (mEntC (mM 38).2.2.1) = true := by decide +kernel
theorem mDc39 : mCd39.all (mEntC (mM 39).2.2.1) = true := by decide +kernel
theorem mDc40 : mCd40.all (mEntC (mM 40).2.2.1) = true := by decide +kernel
theorem mDc41 : mCd41.all (mEntC (mM 41).2.2.1) = true := by decide +kernel
theorem mDc42 : mCd42.all (mEntC (mM 42).2.2.1) = true := by decide +kernel
theorem mDc43 : mCd43.all (mEntC (mM 43).2.2.1) = true := by decide +kernel
theorem mDc44 : mCd44.all (mEntC (mM 44).2.2.1) = true := by decide +kernel
theorem mDc45 : mCd45.all (mEntC (mM 45).2.2.1) = true := by decide +kernel
theorem mDc46 : mCd46.all (mEntC (mM 46).2.2.1) = true := by decide +kernel
theorem mDc47 : mCd47.all (mEntC (mM 47).2.2.1) = true := by decide +kernel
theorem mDc48 : mCd48.all (mEntC (mM 48).2.2.1) = true := by decide +kernel
theorem mDc49 : mCd49.all (mEntC (mM 49).2.2.1) = true := by decide +kernel
theorem mDc50 : mCd50.all (mEntC (mM 50).2.2.1) = true := by decide +kernel
theorem mDc51 : mCd51.all (mEntC (mM 51).2.2.1) = true := by decide +kernel
theorem mDc52 : mCd52.all (mEntC (mM 52).2.2.1) = true := by decide +kernel
theorem mDc53 : mCd53.all (mEntC (mM 53).2.2.1) = true := by decide +kernel
theorem mDc54 : mCd54.all (mEntC (mM 54).2.2.1) = true := by decide +kernel
theorem mDc55 : mCd55.all (mEntC (mM 55).2.2.1) = true := by decide +kernel
theorem mDc56 : mCd56.all (mEntC (mM 56).2.2.1) = true := by decide +kernel
theorem mDc57 : mCd57.all (mEntC (mM 57).2.2.1) = true := by decide +kernel
theorem mDc58 : mCd58.all (mEntC (mM 58).2.2.1) = true := by decide +kernel
theorem mDc59 : mCd59.all (mEntC (mM 59).2.2.1) = true := by decide +kernel
theorem mDc60 : mCd60.all (mEntC (mM 60).2.2.1) = true := by decide +kernel
theorem mDc61 : mCd61.all (mEntC (mM 61).2.2.1) = true := by decide +kernel
theorem mDc62 : mCd62.all (mEntC (mM 62).2.2.1) = true := by decide +kernel
theorem mDc63 : mCd63.all (mEntC (mM 63).2.2.1) = true := by decide +kernel
theorem mDc64 : mCd64.all (mEntC (mM 64).2.2.1) = true := by decide +kernel
theorem mDc65 : mCd65.all (mEntC (mM 65).2.2.1) = true := by decide +kernel
theorem mDc66 : mCd66.all (mEntC (mM 66).2.2.1) = true := by decide +kernel
theorem mDc67 : mCd67.all (mEntC (mM 67).2.2.1) = true := by decide +kernel
theorem mDc68 : mCd68.all (mEntC (mM 68).2.2.1) = true := by decide +kernel
theorem mDc69 : mCd69.all (mEntC (mM 69).2.2.1) = true := by decide +kernel
theorem mDc70 : mCd70.all (mEntC (mM 70).2.2.1) = true := by decide +kernel
theorem mDc71 : mCd71.all (mEntC (mM 71).2.2.1) = true := by decide +kernel
theorem mDc72 : mCd72.all (mEntC (mM 72).2.2.1) = true := by decide +kernel
theorem mDc73 : mCd73.all (mEntC (mM 73).2.2.1) = true := by decide +kernel
theorem mDc74 : mCd74.all (mEntC (mM 74).2.2.1) = true := by decide +kernel
theorem mDc75 : mCd75.all (mEntC (mM 75).2.2.1) = true := by decide +kernel
theorem mDc76 : mCd76.all (mEntC (mM 76).2.2.1) = true := by decide +kernel
theorem mDc77 : mCd77.all (mEntC (mM 77).2.2.1) = true := by decide +kernel
theorem mDc78 : mCd78.all (mEntC (mM 78).2.2.1) = true := by decide +kernel
theorem mDc79 : mCd79.all (mEntC (mM 79).2.2.1) = true := by decide +kernel
theorem mDc80 : mCd80.all (mEntC (mM 80).2.2.1) = true := by decide +kernel
theorem mDc81 : mCd81.all (mEntC (mM 81).2.2.1) = true := by decide +kernel
theorem mDc82 : mCd82.all (mEntC (mM 82).2.2.1) = true := by decide +kernel
theorem mDc83 : mCd83.all (mEntC (mM 83).2.2.1) = true := by decide +kernel
theorem mDc84 : mCd84.all (mEntC (mM 84).2.2.1) = true := by decide +kernel
theorem mDc85 : mCd85.all (mEntC (mM 85).2.2.1) = true := by decide +kernel
theorem mDc86 : mCd86.all (mEntC (mM 86).2.2.1) = true := by decide +kernel
theorem mDc87 : mCd87.all (mEntC (mM 87).2.2.1) = true := by decide +kernel
theorem mDc88 : mCd88.all (mEntC (mM 88).2.2.1) = true := by decide +kernel
theorem mDc89 : mCd89.all (mEntC (mM 89).2.2.1) = true := by decide +kernel
theorem mDc90 : mCd90.all (mEntC (mM 90).2.2.1) = true := by decide +kernel
theorem mDc91 : mCd91.all (mEntC (mM 91).2.2.1) = true := by decide +kernel
theorem mDc92 : mCd92.all (mEntC (mM 92).2.2.1) = true := by decide +kernel
theorem mDc93 : mCd93.all (mEntC (mM 93).2.2.1) = true := by decide +kernel
theorem mDc94 : mCd94.all (mEntC (mM 94).2.2.1) = true := by decide +kernel
theorem mDc95 : mCd95.all (mEntC (mM 95).2.2.1) = true := by decide +kernel
theorem mDc96 : mCd96.all (mEntC (mM 96).2.2.1) = true := by decide +kernel
theorem mDc97 : mCd97.all (mEntC (mM 97).2.2.1) = true := by decide +kernel
theorem mDc98 : mCd98.all (mEntC (mM 98).2.2.1) = true := by decide +kernel
theorem mDc99 : mCd99.all (mEntC (mM 99).2.2.1) = true := by decide +kernel
theorem mDc100 : mCd100.all (mEntC (mM 100).2.2.1) = true := by decide +kernel
theorem mDc101 : mCd101.all (mEntC (mM 101).2.2.1) = true := by decide +kernel
theorem mDc102 : mCd102.all (mEntC (mM 102).2.2.1) = true := by decide +kernel
theorem mDc103 : mCd103.all (mEntC (mM 103).2.2.1) = true := by decide +kernel
theorem mDc104 : mCd104.all (mEntC (mM 104).2.2.1) = true := by decide +kernel
theorem mDc105 : mCd105.all (mEntC (mM 105).2.2.1) = true := by decide +kernel
theorem mDc106 : mCd106.all (mEntC (mM 106).2.2.1) = true := by decide +kernel
theorem mDc107 : mCd107.all (mEntC (mM 107).2.2.1) = true := by decide +kernel
theorem mDc108 : mCd108.all (mEntC (mM 108).2.2.1) = true := by decide +kernel
theorem mDc109 : mCd109.all (mEntC (mM 109).2.2.1) = true := by decide +kernel
theorem mDc110 : mCd110.all (mEntC (mM 110).2.2.1) = true := by decide +kernel
theorem mDc111 : mCd111.all (mEntC (mM 111).2.2.1) = true := by decide +kernel
theorem mDc112 : mCd112.all (mEntC (mM 112).2.2.1) = true := by decide +kernel
theorem mDc113 : mCd113.all (mEntC (mM 113).2.2.1) = true := by decide +kernel
theorem mDc114 : mCd114.all (mEntC (mM 114).2.2.1) = true := by decide +kernel
theorem mDc115 : mCd115.all (mEntC (mM 115).2.2.1) = true := by decide +kernel
theorem mDc116 : mCd116.all (mEntC (mM 116).2.2.1) = true := by decide +kernel
theorem mDc117 : mCd117.all (mEntC (mM 117).2.2.1) = true := by decide +kernel
theorem mDc118 : mCd118.all (mEntC (mM 118).2.2.1) = true := by decide +kernel
theorem mDc119 : mCd119.all (mEntC (mM 119).2.2.1) = true := by decide +kernel
theorem mDc120 : mCd120.all (mEntC (mM 120).2.2.1) = true := by decide +kernel
theorem mDc121 : mCd121.all (mEntC (mM 121).2.2.1) = true := by decide +kernel
theorem mDc122 : mCd122.all (mEntC (mM 122).2.2.1) = true := by decide +kernel
theorem mDc123 : mCd123.all (mEntC (mM 123).2.2.1) = true := by decide +kernel
theorem mDc124 : mCd124.all (mEntC (mM 124).2.2.1) = true := by decide +kernel
theorem mDc125 : mCd125.all (mEntC (mM 125).2.2.1) = true := by decide +kernel
theorem mDc126 : mCd126.all (mEntC (mM 126).2.2.1) = true := by decide +kernel
theorem mDc127 : mCd127.all (mEntC (mM 127).2.2.1) = true := by decide +kernel
theorem mDc128 : mCd128.all (mEntC (mM 128).2.2.1) = true := by decide +kernel
theorem mDc129 : mCd129.all (mEntC (mM 129).2.2.1) = true := by decide +kernel
theorem mDc130 : mCd130.all (mEntC (mM 130).2.2.1) = true := by decide +kernel
theorem mDc131 : mCd131.all (mEntC (mM 131).2.2.1) = true := by decide +kernel
theorem mDc132 : mCd132.all (mEntC (mM 132).2.2.1) = true := by decide +kernel
theorem mDc133 : mCd133.all (mEntC (mM 133).2.2.1) = true := by decide +kernel
theorem mDc134 : mCd134.all (mEntC (mM 134).2.2.1) = true := by decide +kernel
theorem mDc135 : mCd135.all (mEntC (mM 135).2.2.1) = true := by decide +kernel
theorem mDc136 : mCd136.all (mEntC (mM 136).2.2.1) = true := by decide +kernel
theorem mDc137 : mCd137.all (mEntC (mM 137).2.2.1) = true := by decide +kernel
theorem mDc138 : mCd138.all (mEntC (mM 138).2.2.1) = true := by decide +kernel
theorem mDc139 : mCd139.all (mEntC (mM 139).2.2.1) = true := by decide +kernel
theorem mDc140 : mCd140.all (mEntC (mM 140).2.2.1) = true := by decide +kernel
theorem mDc141 : mCd141.all (mEntC (mM 141).2.2.1) = true := by decide +kernel
theorem mDc142 : mCd142.all (mEntC (mM 142).2.2.1) = true := by decide +kernel
theorem mDc143 : mCd143.all (mEntC (mM 143).2.2.1) = true := by decide +kernel
theorem mDc144 : mCd144.all (mEntC (mM 144).2.2.1) = true := by decide +kernel
theorem mDc145 : mCd145.all (mEntC (mM 145).2.2.1) = true := by decide +kernel
theorem mDc146 : mCd146.all (mEntC (mM 146).2.2.1) = true := by decide +kernel
theorem mDc147 : mCd147.all (mEntC (mM 147).2.2.1) = true := by decide +kernel
theorem mDc148 : mCd148.all (mEntC (mM 148).2.2.1) = true := by decide +kernel
theorem mDc149 : mCd149.all (mEntC (mM 149).2.2.1) = true := by decide +kernel
theorem mDc150 : mCd150.all (mEntC (mM 150).2.2.1) = true := by decide +kernel
theorem mDc151 : mCd151.all (mEntC (mM 151).2.2.1) = true := by decide +kernel
theorem mDc152 : mCd152.all (mEntC (mM 152).2.2.1) = true := by decide +kernel
theorem mDc153 : mCd153.all (mEntC (mM 153).2.2.1) = true := by decide +kernel
theorem mDc154 : mCd154.all (mEntC (mM 154).2.2.1) = true := by decide +kernel
theorem mDc155 : mCd155.all (mEntC (mM 155).2.2.1) = true := by decide +kernel
theorem mDc156 : mCd156.all (mEntC (mM 156).2.2.1) = true := by decide +kernel
theorem mDc157 : mCd157.all (mEntC (mM 157).2.2.1) = true := by decide +kernel
theorem mDc158 : mCd158.all (mEntC (mM 158).2.2.1) = true := by decide +kernel
theorem mDc159 : mCd159.all (mEntC (mM 159).2.2.1) = true := by decide +kernel
theorem mDc160 : mCd160.all (mEntC (mM 160).2.2.1) = true := by decide +kernel
theorem mDc161 : mCd161.all (mEntC (mM 161).2.2.1) = true := by decide +kernel
theorem mDc162 : mCd162.all (mEntC (mM 162).2.2.1) = true := by decide +kernel
theorem mDc163 : mCd163.all (mEntC (mM 163).2.2.1) = true := by decide +kernel
theorem mDc164 : mCd164.all (mEntC (mM 164).2.2.1) = true := by decide +kernel
theorem mDc165 : mCd165.all (mEntC (mM 165).2.2.1) = true := by decide +kernel
theorem mDc166 : mCd166.all (mEntC (mM 166).2.2.1) = true := by decide +kernel
theorem mDc167 : mCd167.all (mEntC (mM 167).2.2.1) = true := by decide +kernel
theorem mDc168 : mCd168.all (mEntC (mM 168).2.2.1) = true := by decide +kernel
theorem mDc169 : mCd169.all (mEntC (mM 169).2.2.1) = true := by decide +kernel
theorem mDc170 : mCd170.all (mEntC (mM 170).2.2.1) = true := by decide +kernel
theorem mDc171 : mCd171.all (mEntC (mM 171).2.2.1) = true := by decide +kernel
theorem mDc172 : mCd172.all (mEntC (mM 172).2.2.1) = true := by decide +kernel
theorem mDc173 : mCd173.all (mEntC (mM 173).2.2.1) = true := by decide +kernel
theorem mDc174 : mCd174.all (mEntC (mM 174).2.2.1) = true := by decide +kernel
theorem mDc175 : mCd175.all (mEntC (mM 175).2.2.1) = true := by decide +kernel
theorem mDc176 : mCd176.all (mEntC (mM 176).2.2.1) = true := by decide +kernel
theorem mDc177 : mCd177.all (mEntC (mM 177).2.2.1) = true := by decide +kernel
theorem mDc178 : mCd178.all (mEntC (mM 178).2.2.1) = true := by decide +kernel
theorem mDc179 : mCd179.all (mEntC (mM 179).2.2.1) = true := by decide +kernel
theorem mDc180 : mCd180.all (mEntC (mM 180).2.2.1) = true := by decide +kernel
theorem mDc181 : mCd181.all (mEntC (mM 181).2.2.1) = true := by decide +kernel
theorem mDc182 : mCd182.all (mEntC (mM 182).2.2.1) = true := by decide +kernel
theorem mDc183 : mCd183.all (mEntC (mM 183).2.2.1) = true := by decide +kernel
theorem mDc184 : mCd184.all (mEntC (mM 184).2.2.1) = true := by decide +kernel
theorem mDc185 : mCd185.all (mEntC (mM 185).2.2.1) = true := by decide +kernel
theorem mDc186 : mCd186.all (mEntC (mM 186).2.2.1) = true := by decide +kernel
theorem mDc187 : mCd187.all (mEntC (mM 187).2.2.1) = true := by decide +kernel
theorem mDc188 : mCd188.all (mEntC (mM 188).2.2.1) = true := by decide +kernel
theorem mDc189 : mCd189.all (mEntC (mM 189).2.2.1) = true := by decide +kernel
theorem mDc190 : mCd190.all (mEntC (mM 190).2.2.1) = true := by decide +kernel
theorem mDc191 : mCd191.all (mEntC (mM 191).2.2.1) = true := by decide +kernel
theorem mDc192 : mCd192.all (mEntC (mM 192).2.2.1) = true := by decide +kernel
theorem mDc193 : mCd193.all (mEntC (mM 193).2.2.1) = true := by decide +kernel
theorem mDc194 : mCd194.all (mEntC (mM 194).2.2.1) = true := by decide +kernel
theorem mDc195 : mCd195.all (mEntC (mM 195).2.2.1) = true := by decide +kernel
theorem mDc196 : mCd196.all (mEntC (mM 196).2.2.1) = true := by decide +kernel
theorem mDc197 : mCd197.all (mEntC (mM 197).2.2.1) = true := by decide +kernel
theorem mDc198 : mCd198.all (mEntC (mM 198).2.2.1) = true := by decide +kernel
theorem mDc199 : mCd199.all (mEntC (mM 199).2.2.1) = true := by decide +kernel
theorem mDc200 : mCd200.all (mEntC (mM 200).2.2.1) = true := by decide +kernel
theorem mDc201 : mCd201.all (mEntC (mM 201).2.2.1) = true := by decide +kernel
theorem mDc202 : mCd202.all (mEntC (mM 202).2.2.1) = true := by decide +kernel
theorem mDc203 : mCd203.all (mEntC (mM 203).2.2.1) = true := by decide +kernel
theorem mDc204 : mCd204.all (mEntC (mM 204).2.2.1) = true := by decide +kernel
theorem mDc205 : mCd205.all (mEntC (mM 205).2.2.1) = true := by decide +kernel
theorem mDc206 : mCd206.all (mEntC (mM 206).2.2.1) = true := by decide +kernel
theorem mDc207 : mCd207.all (mEntC (mM 207).2.2.1) = true := by decide +kernel
theorem mDc208 : mCd208.all (mEntC (mM 208).2.2.1) = true := by decide +kernel
theorem mDc209 : mCd209.all (mEntC (mM 209).2.2.1) = true := by decide +kernel
theorem mDc210 : mCd210.all (mEntC (mM 210).2.2.1) = true := by decide +kernel
theorem mDc211 : mCd211.all (mEntC (mM 211).2.2.1) = true := by decide +kernel
theorem mDc212 : mCd212.all (mEntC (mM 212).2.2.1) = true := by decide +kernel
theorem mDc213 : mCd213.all (mEntC (mM 213).2.2.1) = true := by decide +kernel
theorem mDc214 : mCd214.all (mEntC (mM 214).2.2.1) = true := by decide +kernel
theorem mDc215 : mCd215.all (mEntC (mM 215).2.2.1) = true := by decide +kernel
theorem mDc216 : mCd216.all (mEntC (mM 216).2.2.1) = true := by decide +kernel
theorem mDc217 : mCd217.all (mEntC (mM 217).2.2.1) = true := by decide +kernel
theorem mDc218 : mCd218.all (mEntC (mM 218).2.2.1) = true := by decide +kernel
theorem mDc219 : mCd219.all (mEntC (mM 219).2.2.1) = true := by decide +kernel
theorem mDc220 : mCd220.all (mEntC (mM 220).2.2.1) = true := by decide +kernel
theorem mDc221 : mCd221.all (mEntC (mM 221).2.2.1) = true := by decide +kernel
theorem mDc222 : mCd222.all (mEntC (mM 222).2.2.1) = true := by decide +kernel
theorem mDc223 : mCd223.all (mEntC (mM 223).2.2.1) = true := by decide +kernel
theorem mDc224 : mCd224.all (mEntC (mM 224).2.2.1) = true := by decide +kernel
theorem mDc225 : mCd225.all (mEntC (mM 225).2.2.1) = true := by decide +kernel
theorem mDc226 : mCd226.all (mEntC (mM 226).2.2.1) = true := by decide +kernel
theorem mDc227 : mCd227.all (mEntC (mM 227).2.2.1) = true := by decide +kernel
theorem mDc228 : mCd228.all (mEntC (mM 228).2.2.1) = true := by decide +kernel
theorem mDc229 : mCd229.all (mEntC (mM 229).2.2.1) = true := by decide +kernel
theorem mDc230 : mCd230.all (mEntC (mM 230).2.2.1) = true := by decide +kernel
theorem mDec (k : Nat) (hk : k < 231) : (mCds.getD k []).all (mEntC (mM k).2.2.1) = true := by
  match k, hk with
  | 0, _ => exact mDc0
  | 1, _ => exact mDc1
  | 2, _ => exact mDc2
  | 3, _ => exact mDc3
  | 4, _ => exact mDc4
  | 5, _ => exact mDc5
  | 6, _ => exact mDc6
  | 7, _ => exact mDc7
  | 8, _ => exact mDc8
  | 9, _ => exact mDc9
  | 10, _ => exact mDc10
  | 11, _ => exact mDc11
  | 12, _ => exact mDc12
  | 13, _ => exact mDc13
  | 14, _ => exact mDc14
  | 15, _ => exact mDc15
  | 16, _ => exact mDc16
  | 17, _ => exact mDc17
  | 18, _ => exact mDc18
  | 19, _ => exact mDc19
  | 20, _ => exact mDc20
  | 21, _ => exact mDc21
  | 22, _ => exact mDc22
  | 23, _ => exact mDc23
  | 24, _ => exact mDc24
  | 25, _ => exact mDc25
  | 26, _ => exact mDc26
  | 27, _ => exact mDc27
  | 28, _ => exact mDc28
  | 29, _ => exact mDc29
  | 30, _ => exact mDc30
  | 31, _ => exact mDc31
  | 32, _ => exact mDc32
  | 33, _ => exact mDc33
  | 34, _ => exact mDc34
  | 35, _ => exact mDc35
  | 36, _ => exact mDc36
  | 37, _ => exact mDc37
  | 38, _ => exact mDc38
  | 39, _ => exact mDc39
  | 40, _ => exact mDc40
  | 41, _ => exact mDc41
  | 42, _ => exact mDc42
  | 43, _ => exact mDc43
  | 44, _ => exact mDc44
  | 45, _ => exact mDc45
  | 46, _ => exact mDc46
  | 47, _ => exact mDc47
  | 48, _ => exact mDc48
  | 49, _ => exact mDc49
  | 50, _ => exact mDc50
  | 51, _ => exact mDc51
  | 52, _ => exact mDc52
  | 53, _ => exact mDc53
  | 54, _ => exact mDc54
  | 55, _ => exact mDc55
  | 56, _ => exact mDc56
  | 57, _ => exact mDc57
  | 58, _ => exact mDc58
  | 59, _ => exact mDc59
  | 60, _ => exact mDc60
  | 61, _ => exact mDc61
  | 62, _ => exact mDc62
  | 63, _ => exact mDc63
  | 64, _ => exact mDc64
  | 65, _ => exact mDc65
  | 66, _ => exact mDc66
  | 67, _ => exact mDc67
  | 68, _ => exact mDc68
  | 69, _ => exact mDc69
  | 70, _ => exact mDc70
  | 71, _ => exact mDc71
  | 72, _ => exact mDc72
  | 73, _ => exact mDc73
  | 74, _ => exact mDc74
  | 75, _ => exact mDc75
  | 76, _ => exact mDc76
  | 77, _ => exact mDc77
  | 78, _ => exact mDc78
  | 79, _ => exact mDc79
  | 80, _ => exact mDc80
  | 81, _ => exact mDc81
  | 82, _ => exact mDc82
  | 83, _ => exact mDc83
  | 84, _ => exact mDc84
  | 85, _ => exact mDc85
  | 86, _ => exact mDc86
  | 87, _ => exact mDc87
  | 88, _ => exact mDc88
  | 89, _ => exact mDc89
  | 90, _ => exact mDc90
  | 91, _ => exact mDc91
  | 92, _ => exact mDc92
  | 93, _ => exact mDc93
  | 94, _ => exact mDc94
  | 95, _ => exact mDc95
  | 96, _ => exact mDc96
  | 97, _ => exact mDc97
  | 98, _ => exact mDc98
  | 99, _ => exact mDc99
  | 100, _ => exact mDc100
  | 101, _ => exact mDc101
  | 102, _ => exact mDc102
  | 103, _ => exact mDc103
  | 104, _ => exact mDc104
  | 105, _ => exact mDc105
  | 106, _ => exact mDc106
  | 107, _ => exact mDc107
  | 108, _ => exact mDc108
  | 109, _ => exact mDc109
  | 110, _ => exact mDc110
  | 111, _ => exact mDc111
  | 112, _ => exact mDc112
  | 113, _ => exact mDc113
  | 114, _ => exact mDc114
  | 115, _ => exact mDc115
  | 116, _ => exact mDc116
  | 117, _ => exact mDc117
  | 118, _ => exact mDc118
  | 119, _ => exact mDc119
  | 120, _ => exact mDc120
  | 121, _ => exact mDc121
  | 122, _ => exact mDc122
  | 123, _ => exact mDc123
  | 124, _ => exact mDc124
  | 125, _ => exact mDc125
  | 126, _ => exact mDc126
  | 127, _ => exact mDc127
  | 128, _ => exact mDc128
  | 129, _ => exact mDc129
  | 130, _ => exact mDc130
  | 131, _ => exact mDc131
  | 132, _ => exact mDc132
  | 133, _ => exact mDc133
  | 134, _ => exact mDc134
  | 135, _ => exact mDc135
  | 136, _ => exact mDc136
  | 137, _ => exact mDc137
  | 138, _ => exact mDc138
  | 139, _ => exact mDc139
  | 140, _ => exact mDc140
  | 141, _ => exact mDc141
  | 142, _ => exact mDc142
  | 143, _ => exact mDc143
  | 144, _ => exact mDc144
  | 145, _ => exact mDc145
  | 146, _ => exact mDc146
  | 147, _ => exact mDc147
  | 148, _ => exact mDc148
  | 149, _ => exact mDc149
  | 150, _ => exact mDc150
  | 151, _ => exact mDc151
  | 152, _ => exact mDc152
  | 153, _ => exact mDc153
  | 154, _ => exact mDc154
  | 155, _ => exact mDc155
  | 156, _ => exact mDc156
  | 157, _ => exact mDc157
  | 158, _ => exact mDc158
  | 159, _ => exact mDc159
  | 160, _ => exact mDc160
  | 161, _ => exact mDc161
  | 162, _ => exact mDc162
  | 163, _ => exact mDc163
  | 164, _ => exact mDc164
  | 165, _ => exact mDc165
  | 166, _ => exact mDc166
  | 167, _ => exact mDc167
  | 168, _ => exact mDc168
  | 169, _ => exact mDc169
  | 170, _ => exact mDc170
  | 171, _ => exact mDc171
  | 172, _ => exact mDc172
  | 173, _ => exact mDc173
  | 174, _ => exact mDc174
  | 175, _ => exact mDc175
  | 176, _ => exact mDc176
  | 177, _ => exact mDc177
  | 178, _ => exact mDc178
  | 179, _ => exact mDc179
  | 180, _ => exact mDc180
  | 181, _ => exact mDc181
  | 182, _ => exact mDc182
  | 183, _ => exact mDc183
  | 184, _ => exact mDc184
  | 185, _ => exact mDc185
  | 186, _ => exact mDc186
  | 187, _ => exact mDc187
  | 188, _ => exact mDc188
  | 189, _ => exact mDc189
  | 190, _ => exact mDc190
  | 191, _ => exact mDc191
  | 192, _ => exact mDc192
  | 193, _ => exact mDc193
  | 194, _ => exact mDc194
  | 195, _ => exact mDc195
  | 196, _ => exact mDc196
  | 197, _ => exact mDc197
  | 198, _ => exact mDc198
  | 199, _ => exact mDc199
  | 200, _ => exact mDc200
  | 201, _ => exact mDc201
  | 202, _ => exact mDc202
  | 203, _ => exact mDc203
  | 204, _ => exact mDc204
  | 205, _ => exact mDc205
  | 206, _ => exact mDc206
  | 207, _ => exact mDc207
  | 208, _ => exact mDc208
  | 209, _ => exact mDc209
  | 210, _ => exact mDc210
  | 211, _ => exact mDc211
  | 212, _ => exact mDc212
  | 213, _ => exact mDc213
  | 214, _ => exact mDc214
  | 215, _ => exact mDc215
  | 216, _ => exact mDc216
  | 217, _ => exact mDc217
  | 218, _ => exact mDc218
  | 219, _ => exact mDc219
  | 220, _ => exact mDc220
  | 221, _ => exact mDc221
  | 222, _ => exact mDc222
  | 223, _ => exact mDc223
  | 224, _ => exact mDc224
  | 225, _ => exact mDc225
  | 226, _ => exact mDc226
  | 227, _ => exact mDc227
  | 228, _ => exact mDc228
  | 229, _ => exact mDc229
  | 230, _ => exact mDc230
  | n + 231, h => exact absurd h (by omega)
