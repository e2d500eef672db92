theorem okX8_digest : hb_okV mX8_digest 0 := ⟨⟨hb_w 1 (by decide +kernel) (by decide +kernel), hb_w 785 (by decide +kernel) (by decide +kernel), ⟨by decide +kernel, by decide +kernel, by decide +kernel⟩, by decide⟩, hb_w 783 (by decide +kernel) (by decide +kernel), hb_w 784 (by decide +kernel) (by decide +kernel)⟩
theorem okX9_digest : hb_okV mX9_digest 0 := ⟨⟨hb_w 11 (by decide +kernel) (by decide +kernel), hb_w 1874 (by decide +kernel) (by decide +kernel), ⟨by decide +kernel, by decide +kernel, by decide +kernel⟩, by decide⟩, hb_w 1872 (by decide +kernel) (by decide +kernel), hb_w 1873 (by decide +kernel) (by decide +kernel)⟩
theorem okL_undo : hb_okX mL_undo 2 := ⟨⟨hb_w 0 (by decide +kernel) (by decide +kernel), hb_w 1304 (by decide +kernel) (by decide +kernel), ⟨by decide +kernel, by decide +kernel, by decide +kernel⟩, by decide⟩, hb_w 1303 (by decide +kernel) (by decide +kernel)⟩
theorem okX9_undo : hb_okV mX9_undo 0 := ⟨⟨hb_w 11 (by decide +kernel) (by decide +kernel), hb_w 1419 (by decide +kernel) (by decide +kernel), ⟨by decide +kernel, by decide +kernel, by decide +kernel⟩, by decide⟩, hb_w 1417 (by decide +kernel) (by decide +kernel), hb_w 1418 (by decide +kernel) (by decide +kernel)⟩
theorem okX9_thrown : hb_okV mX9_thrown 0 := ⟨⟨hb_w 11 (by decide +kernel) (by decide +kernel), hb_w 1415 (by decide +kernel) (by decide +kernel), ⟨by decide +kernel, by decide +kernel, by decide +kernel⟩, by decide⟩, hb_w 1413 (by decide +kernel) (by decide +kernel), hb_w 1414 (by decide +kernel) (by decide +kernel)⟩
theorem okL_growth : hb_okX mL_growth 4 := ⟨⟨hb_w 0 (by decide +kernel) (by decide +kernel), hb_w 1297 (by decide +kernel) (by decide +kernel), ⟨by decide +kernel, by decide +kernel, by decide +kernel⟩, by decide⟩, hb_w 1296 (by decide +kernel) (by decide +kernel)⟩
theorem okX9_growth : hb_okV mX9_growth 2 := ⟨⟨hb_w 11 (by decide +kernel) (by decide +kernel), hb_w 1870 (by decide +kernel) (by decide +kernel), ⟨by decide +kernel, by decide +kernel, by decide +kernel⟩, by decide⟩, hb_w 1868 (by decide +kernel) (by decide +kernel), hb_w 1869 (by decide +kernel) (by decide +kernel)⟩
theorem okL_compare : hb_okX mL_compare 4 := ⟨⟨hb_w 0 (by decide +kernel) (by decide +kernel), hb_w 1268 (by decide +kernel) (by decide +kernel), ⟨by decide +kernel, by decide +kernel, by decide +kernel⟩, by decide⟩, hb_w 1267 (by decide +kernel) (by decide +kernel)⟩
theorem okX9_compare : hb_okV mX9_compare 2 := ⟨⟨hb_w 11 (by decide +kernel) (by decide +kernel), hb_w 1858 (by decide +kernel) (by decide +kernel), ⟨by decide +kernel, by decide +kernel, by decide +kernel⟩, by decide⟩, hb_w 1856 (by decide +kernel) (by decide +kernel), hb_w 1857 (by decide +kernel) (by decide +kernel)⟩
theorem okL_take : hb_okX mL_take 3 := ⟨⟨hb_w 0 (by decide +kernel) (by decide +kernel), hb_w 1258 (by decide +kernel) (by decide +kernel), ⟨by decide +kernel, by decide +kernel, by decide +kernel⟩, by decide⟩, hb_w 1257 (by decide +kernel) (by decide +kernel)⟩
theorem okX9_take : hb_okV mX9_take 1 := ⟨⟨hb_w 11 (by decide +kernel) (by decide +kernel), hb_w 1847 (by decide +kernel) (by decide +kernel), ⟨by decide +kernel, by decide +kernel, by decide +kernel⟩, by decide⟩, hb_w 1845 (by decide +kernel) (by decide +kernel), hb_w 1846 (by decide +kernel) (by decide +kernel)⟩
theorem okX8_execute : hb_okV mX8_execute 0 := ⟨⟨hb_w 1 (by decide +kernel) (by decide +kernel), hb_w 669 (by decide +kernel) (by decide +kernel), ⟨by decide +kernel, by decide +kernel, by decide +kernel⟩, by decide⟩, hb_w 667 (by decide +kernel) (by decide +kernel), hb_w 668 (by decide +kernel) (by decide +kernel)⟩
theorem okX9_execute : hb_okV mX9_execute 0 := ⟨⟨hb_w 11 (by decide +kernel) (by decide +kernel), hb_w 1827 (by decide +kernel) (by decide +kernel), ⟨by decide +kernel, by decide +kernel, by decide +kernel⟩, by decide⟩, hb_w 1825 (by decide +kernel) (by decide +kernel), hb_w 1826 (by decide +kernel) (by decide +kernel)⟩
theorem okX9_matchSize : hb_okV mX9_matchSize 1 := ⟨⟨hb_w 11 (by decide +kernel) (by decide +kernel), hb_w 1823 (by decide +kernel) (by decide +kernel), ⟨by decide +kernel, by decide +kernel, by decide +kernel⟩, by decide⟩, hb_w 1821 (by decide +kernel) (by decide +kernel), hb_w 1822 (by decide +kernel) (by decide +kernel)⟩
theorem okX8_matchSize : hb_okV mX8_matchSize 1 := ⟨⟨hb_w 1 (by decide +kernel) (by decide +kernel), hb_w 655 (by decide +kernel) (by decide +kernel), ⟨by decide +kernel, by decide +kernel, by decide +kernel⟩, by decide⟩, hb_w 653 (by decide +kernel) (by decide +kernel), hb_w 654 (by decide +kernel) (by decide +kernel)⟩
theorem okX8_matchAt : hb_okV mX8_matchAt 1 := ⟨⟨hb_w 1 (by decide +kernel) (by decide +kernel), hb_w 647 (by decide +kernel) (by decide +kernel), ⟨by decide +kernel, by decide +kernel, by decide +kernel⟩, by decide⟩, hb_w 645 (by decide +kernel) (by decide +kernel), hb_w 646 (by decide +kernel) (by decide +kernel)⟩
theorem okX9_matchAt : hb_okV mX9_matchAt 1 := ⟨⟨hb_w 11 (by decide +kernel) (by decide +kernel), hb_w 1819 (by decide +kernel) (by decide +kernel), ⟨by decide +kernel, by decide +kernel, by decide +kernel⟩, by decide⟩, hb_w 1817 (by decide +kernel) (by decide +kernel), hb_w 1818 (by decide +kernel) (by decide +kernel)⟩
theorem okX8_matches : hb_okV mX8_matches 0 := ⟨⟨hb_w 1 (by decide +kernel) (by decide +kernel), hb_w 468 (by decide +kernel) (by decide +kernel), ⟨by decide +kernel, by decide +kernel, by decide +kernel⟩, by decide⟩, hb_w 466 (by decide +kernel) (by decide +kernel), hb_w 467 (by decide +kernel) (by decide +kernel)⟩
theorem okX9_matches : hb_okV mX9_matches 0 := ⟨⟨hb_w 11 (by decide +kernel) (by decide +kernel), hb_w 1769 (by decide +kernel) (by decide +kernel), ⟨by decide +kernel, by decide +kernel, by decide +kernel⟩, by decide⟩, hb_w 1767 (by decide +kernel) (by decide +kernel), hb_w 1768 (by decide +kernel) (by decide +kernel)⟩
theorem okX8_clearText : hb_okV mX8_clearText 0 := ⟨⟨hb_w 1 (by decide +kernel) (by decide +kernel), hb_w 464 (by decide +kernel) (by decide +kernel), ⟨by decide +kernel, by decide +kernel, by decide +kernel⟩, by decide⟩, hb_w 462 (by decide +kernel) (by decide +kernel), hb_w 463 (by decide +kernel) (by decide +kernel)⟩
theorem okX9_clearText : hb_okV mX9_clearText 0 := ⟨⟨hb_w 11 (by decide +kernel) (by decide +kernel), hb_w 1765 (by decide +kernel) (by decide +kernel), ⟨by decide +kernel, by decide +kernel, by decide +kernel⟩, by decide⟩, hb_w 1763 (by decide +kernel) (by decide +kernel), hb_w 1764 (by decide +kernel) (by decide +kernel)⟩
theorem okL_append : hb_okX mL_append 3 := ⟨⟨hb_w 0 (by decide +kernel) (by decide +kernel), hb_w 1247 (by decide +kernel) (by decide +kernel), ⟨by decide +kernel, by decide +kernel, by decide +kernel⟩, by decide⟩, hb_w 1246 (by decide +kernel) (by decide +kernel)⟩
theorem okX9_append : hb_okV mX9_append 1 := ⟨⟨hb_w 11 (by decide +kernel) (by decide +kernel), hb_w 1761 (by decide +kernel) (by decide +kernel), ⟨by decide +kernel, by decide +kernel, by decide +kernel⟩, by decide⟩, hb_w 1759 (by decide +kernel) (by decide +kernel), hb_w 1760 (by decide +kernel) (by decide +kernel)⟩
theorem okL_accumulationPoint : hb_okX mL_accumulationPoint 4 := ⟨⟨hb_w 0 (by decide +kernel) (by decide +kernel), hb_w 1234 (by decide +kernel) (by decide +kernel), ⟨by decide +kernel, by decide +kernel, by decide +kernel⟩, by decide⟩, hb_w 1233 (by decide +kernel) (by decide +kernel)⟩
theorem okX9_accumulationPoint : hb_okV mX9_accumulationPoint 2 := ⟨⟨hb_w 11 (by decide +kernel) (by decide +kernel), hb_w 1757 (by decide +kernel) (by decide +kernel), ⟨by decide +kernel, by decide +kernel, by decide +kernel⟩, by decide⟩, hb_w 1755 (by decide +kernel) (by decide +kernel), hb_w 1756 (by decide +kernel) (by decide +kernel)⟩
theorem okL_suspectAt : hb_okX mL_suspectAt 4 := ⟨⟨hb_w 0 (by decide +kernel) (by decide +kernel), hb_w 1210 (by decide +kernel) (by decide +kernel), ⟨by decide +kernel, by decide +kernel, by decide +kernel⟩, by decide⟩, hb_w 1209 (by decide +kernel) (by decide +kernel)⟩
theorem okX9_suspectAt : hb_okV mX9_suspectAt 2 := ⟨⟨hb_w 11 (by decide +kernel) (by decide +kernel), hb_w 1744 (by decide +kernel) (by decide +kernel), ⟨by decide +kernel, by decide +kernel, by decide +kernel⟩, by decide⟩, hb_w 1742 (by decide +kernel) (by decide +kernel), hb_w 1743 (by decide +kernel) (by decide +kernel)⟩
theorem okL_shareBits : hb_okX mL_shareBits 3 := ⟨⟨hb_w 0 (by decide +kernel) (by decide +kernel), hb_w 1203 (by decide +kernel) (by decide +kernel), ⟨by decide +kernel, by decide +kernel, by decide +kernel⟩, by decide⟩, hb_w 1202 (by decide +kernel) (by decide +kernel)⟩
theorem okX9_shareBits : hb_okV mX9_shareBits 1 := ⟨⟨hb_w 11 (by decide +kernel) (by decide +kernel), hb_w 1730 (by decide +kernel) (by decide +kernel), ⟨by decide +kernel, by decide +kernel, by decide +kernel⟩, by decide⟩, hb_w 1728 (by decide +kernel) (by decide +kernel), hb_w 1729 (by decide +kernel) (by decide +kernel)⟩
theorem okL_meanRetainedBits : hb_okX mL_meanRetainedBits 3 := ⟨⟨hb_w 0 (by decide +kernel) (by decide +kernel), hb_w 1192 (by decide +kernel) (by decide +kernel), ⟨by decide +kernel, by decide +kernel, by decide +kernel⟩, by decide⟩, hb_w 1191 (by decide +kernel) (by decide +kernel)⟩
theorem okX9_meanRetainedBits : hb_okV mX9_meanRetainedBits 1 := ⟨⟨hb_w 11 (by decide +kernel) (by decide +kernel), hb_w 1716 (by decide +kernel) (by decide +kernel), ⟨by decide +kernel, by decide +kernel, by decide +kernel⟩, by decide⟩, hb_w 1714 (by decide +kernel) (by decide +kernel), hb_w 1715 (by decide +kernel) (by decide +kernel)⟩
theorem okX9_group : hb_okV mX9_group 3 := ⟨⟨hb_w 11 (by decide +kernel) (by decide +kernel), hb_w 1704 (by decide +kernel) (by decide +kernel), ⟨by decide +kernel, by decide +kernel, by decide +kernel⟩, by decide⟩, hb_w 1702 (by decide +kernel) (by decide +kernel), hb_w 1703 (by decide +kernel) (by decide +kernel)⟩
theorem okL_group : hb_okX mL_group 5 := ⟨⟨hb_w 0 (by decide +kernel) (by decide +kernel), hb_w 1180 (by decide +kernel) (by decide +kernel), ⟨by decide +kernel, by decide +kernel, by decide +kernel⟩, by decide⟩, hb_w 1179 (by decide +kernel) (by decide +kernel)⟩
theorem okL_freedByUnrooting : hb_okX mL_freedByUnrooting 3 := ⟨⟨hb_w 0 (by decide +kernel) (by decide +kernel), hb_w 1169 (by decide +kernel) (by decide +kernel), ⟨by decide +kernel, by decide +kernel, by decide +kernel⟩, by decide⟩, hb_w 1168 (by decide +kernel) (by decide +kernel)⟩
theorem okX9_freedByUnrooting : hb_okV mX9_freedByUnrooting 1 := ⟨⟨hb_w 11 (by decide +kernel) (by decide +kernel), hb_w 1700 (by decide +kernel) (by decide +kernel), ⟨by decide +kernel, by decide +kernel, by decide +kernel⟩, by decide⟩, hb_w 1698 (by decide +kernel) (by decide +kernel), hb_w 1699 (by decide +kernel) (by decide +kernel)⟩
theorem okL_freedByClearing : hb_okX mL_freedByClearing 4 := ⟨⟨hb_w 0 (by decide +kernel) (by decide +kernel), hb_w 1158 (by decide +kernel) (by decide +kernel), ⟨by decide +kernel, by decide +kernel, by decide +kernel⟩, by decide⟩, hb_w 1157 (by decide +kernel) (by decide +kernel)⟩
theorem okX9_freedByClearing : hb_okV mX9_freedByClearing 2 := ⟨⟨hb_w 11 (by decide +kernel) (by decide +kernel), hb_w 1696 (by decide +kernel) (by decide +kernel), ⟨by decide +kernel, by decide +kernel, by decide +kernel⟩, by decide⟩, hb_w 1694 (by decide +kernel) (by decide +kernel), hb_w 1695 (by decide +kernel) (by decide +kernel)⟩
theorem okL_componentSize : hb_okX mL_componentSize 3 := ⟨⟨hb_w 0 (by decide +kernel) (by decide +kernel), hb_w 1147 (by decide +kernel) (by decide +kernel), ⟨by decide +kernel, by decide +kernel, by decide +kernel⟩, by decide⟩, hb_w 1146 (by decide +kernel) (by decide +kernel)⟩
theorem okX9_componentSize : hb_okV mX9_componentSize 1 := ⟨⟨hb_w 11 (by decide +kernel) (by decide +kernel), hb_w 1692 (by decide +kernel) (by decide +kernel), ⟨by decide +kernel, by decide +kernel, by decide +kernel⟩, by decide⟩, hb_w 1690 (by decide +kernel) (by decide +kernel), hb_w 1691 (by decide +kernel) (by decide +kernel)⟩
theorem okL_component : hb_okX mL_component 3 := ⟨⟨hb_w 0 (by decide +kernel) (by decide +kernel), hb_w 1140 (by decide +kernel) (by decide +kernel), ⟨by decide +kernel, by decide +kernel, by decide +kernel⟩, by decide⟩, hb_w 1139 (by decide +kernel) (by decide +kernel)⟩
theorem okX9_component : hb_okV mX9_component 1 := ⟨⟨hb_w 11 (by decide +kernel) (by decide +kernel), hb_w 1680 (by decide +kernel) (by decide +kernel), ⟨by decide +kernel, by decide +kernel, by decide +kernel⟩, by decide⟩, hb_w 1678 (by decide +kernel) (by decide +kernel), hb_w 1679 (by decide +kernel) (by decide +kernel)⟩
theorem okL_retainedObjects : hb_okX mL_retainedObjects 3 := ⟨⟨hb_w 0 (by decide +kernel) (by decide +kernel), hb_w 1132 (by decide +kernel) (by decide +kernel), ⟨by decide +kernel, by decide +kernel, by decide +kernel⟩, by decide⟩, hb_w 1131 (by decide +kernel) (by decide +kernel)⟩
theorem okX9_retainedObjects : hb_okV mX9_retainedObjects 1 := ⟨⟨hb_w 11 (by decide +kernel) (by decide +kernel), hb_w 1673 (by decide +kernel) (by decide +kernel), ⟨by decide +kernel, by decide +kernel, by decide +kernel⟩, by decide⟩, hb_w 1671 (by decide +kernel) (by decide +kernel), hb_w 1672 (by decide +kernel) (by decide +kernel)⟩
theorem okL_retainedSize : hb_okX mL_retainedSize 3 := ⟨⟨hb_w 0 (by decide +kernel) (by decide +kernel), hb_w 1125 (by decide +kernel) (by decide +kernel), ⟨by decide +kernel, by decide +kernel, by decide +kernel⟩, by decide⟩, hb_w 1124 (by decide +kernel) (by decide +kernel)⟩
theorem okX9_retainedSize : hb_okV mX9_retainedSize 1 := ⟨⟨hb_w 11 (by decide +kernel) (by decide +kernel), hb_w 1661 (by decide +kernel) (by decide +kernel), ⟨by decide +kernel, by decide +kernel, by decide +kernel⟩, by decide⟩, hb_w 1659 (by decide +kernel) (by decide +kernel), hb_w 1660 (by decide +kernel) (by decide +kernel)⟩
theorem okL_dominatedAt : hb_okX mL_dominatedAt 4 := ⟨⟨hb_w 0 (by decide +kernel) (by decide +kernel), hb_w 1114 (by decide +kernel) (by decide +kernel), ⟨by decide +kernel, by decide +kernel, by decide +kernel⟩, by decide⟩, hb_w 1113 (by decide +kernel) (by decide +kernel)⟩
theorem okX9_dominatedAt : hb_okV mX9_dominatedAt 2 := ⟨⟨hb_w 11 (by decide +kernel) (by decide +kernel), hb_w 1657 (by decide +kernel) (by decide +kernel), ⟨by decide +kernel, by decide +kernel, by decide +kernel⟩, by decide⟩, hb_w 1655 (by decide +kernel) (by decide +kernel), hb_w 1656 (by decide +kernel) (by decide +kernel)⟩
theorem okL_depth : hb_okX mL_depth 3 := ⟨⟨hb_w 0 (by decide +kernel) (by decide +kernel), hb_w 1107 (by decide +kernel) (by decide +kernel), ⟨by decide +kernel, by decide +kernel, by decide +kernel⟩, by decide⟩, hb_w 1106 (by decide +kernel) (by decide +kernel)⟩
theorem okX9_depth : hb_okV mX9_depth 1 := ⟨⟨hb_w 11 (by decide +kernel) (by decide +kernel), hb_w 1653 (by decide +kernel) (by decide +kernel), ⟨by decide +kernel, by decide +kernel, by decide +kernel⟩, by decide⟩, hb_w 1651 (by decide +kernel) (by decide +kernel), hb_w 1652 (by decide +kernel) (by decide +kernel)⟩
theorem okL_dominator : hb_okX mL_dominator 3 := ⟨⟨hb_w 0 (by decide +kernel) (by decide +kernel), hb_w 1100 (by decide +kernel) (by decide +kernel), ⟨by decide +kernel, by decide +kernel, by decide +kernel⟩, by decide⟩, hb_w 1099 (by decide +kernel) (by decide +kernel)⟩
theorem okX9_dominator : hb_okV mX9_dominator 1 := ⟨⟨hb_w 11 (by decide +kernel) (by decide +kernel), hb_w 1637 (by decide +kernel) (by decide +kernel), ⟨by decide +kernel, by decide +kernel, by decide +kernel⟩, by decide⟩, hb_w 1635 (by decide +kernel) (by decide +kernel), hb_w 1636 (by decide +kernel) (by decide +kernel)⟩
theorem okL_dominates : hb_okX mL_dominates 4 := ⟨⟨hb_w 0 (by decide +kernel) (by decide +kernel), hb_w 1093 (by decide +kernel) (by decide +kernel), ⟨by decide +kernel, by decide +kernel, by decide +kernel⟩, by decide⟩, hb_w 1092 (by decide +kernel) (by decide +kernel)⟩
theorem okX9_dominates : hb_okV mX9_dominates 2 := ⟨⟨hb_w 11 (by decide +kernel) (by decide +kernel), hb_w 1629 (by decide +kernel) (by decide +kernel), ⟨by decide +kernel, by decide +kernel, by decide +kernel⟩, by decide⟩, hb_w 1627 (by decide +kernel) (by decide +kernel), hb_w 1628 (by decide +kernel) (by decide +kernel)⟩
theorem okL_pathAt : hb_okX mL_pathAt 4 := ⟨⟨hb_w 0 (by decide +kernel) (by decide +kernel), hb_w 1082 (by decide +kernel) (by decide +kernel), ⟨by decide +kernel, by decide +kernel, by decide +kernel⟩, by decide⟩, hb_w 1081 (by decide +kernel) (by decide +kernel)⟩
theorem okX9_pathAt : hb_okV mX9_pathAt 2 := ⟨⟨hb_w 11 (by decide +kernel) (by decide +kernel), hb_w 1622 (by decide +kernel) (by decide +kernel), ⟨by decide +kernel, by decide +kernel, by decide +kernel⟩, by decide⟩, hb_w 1620 (by decide +kernel) (by decide +kernel), hb_w 1621 (by decide +kernel) (by decide +kernel)⟩
theorem okL_distance : hb_okX mL_distance 3 := ⟨⟨hb_w 0 (by decide +kernel) (by decide +kernel), hb_w 1075 (by decide +kernel) (by decide +kernel), ⟨by decide +kernel, by decide +kernel, by decide +kernel⟩, by decide⟩, hb_w 1074 (by decide +kernel) (by decide +kernel)⟩
theorem okX9_distance : hb_okV mX9_distance 1 := ⟨⟨hb_w 11 (by decide +kernel) (by decide +kernel), hb_w 1610 (by decide +kernel) (by decide +kernel), ⟨by decide +kernel, by decide +kernel, by decide +kernel⟩, by decide⟩, hb_w 1608 (by decide +kernel) (by decide +kernel), hb_w 1609 (by decide +kernel) (by decide +kernel)⟩
theorem okL_populate : hb_okX mL_populate 4 := ⟨⟨hb_w 0 (by decide +kernel) (by decide +kernel), hb_w 1038 (by decide +kernel) (by decide +kernel), ⟨by decide +kernel, by decide +kernel, by decide +kernel⟩, by decide⟩, hb_w 1037 (by decide +kernel) (by decide +kernel)⟩
theorem okX9_populate : hb_okV mX9_populate 2 := ⟨⟨hb_w 11 (by decide +kernel) (by decide +kernel), hb_w 1594 (by decide +kernel) (by decide +kernel), ⟨by decide +kernel, by decide +kernel, by decide +kernel⟩, by decide⟩, hb_w 1592 (by decide +kernel) (by decide +kernel), hb_w 1593 (by decide +kernel) (by decide +kernel)⟩
theorem okL_objectInfo : hb_okX mL_objectInfo 4 := ⟨⟨hb_w 0 (by decide +kernel) (by decide +kernel), hb_w 1031 (by decide +kernel) (by decide +kernel), ⟨by decide +kernel, by decide +kernel, by decide +kernel⟩, by decide⟩, hb_w 1030 (by decide +kernel) (by decide +kernel)⟩
theorem okX9_objectInfo : hb_okV mX9_objectInfo 2 := ⟨⟨hb_w 11 (by decide +kernel) (by decide +kernel), hb_w 1578 (by decide +kernel) (by decide +kernel), ⟨by decide +kernel, by decide +kernel, by decide +kernel⟩, by decide⟩, hb_w 1576 (by decide +kernel) (by decide +kernel), hb_w 1577 (by decide +kernel) (by decide +kernel)⟩
theorem okX8_exists : hb_okV mX8_exists 1 := ⟨⟨hb_w 1 (by decide +kernel) (by decide +kernel), hb_w 459 (by decide +kernel) (by decide +kernel), ⟨by decide +kernel, by decide +kernel, by decide +kernel⟩, by decide⟩, hb_w 457 (by decide +kernel) (by decide +kernel), hb_w 458 (by decide +kernel) (by decide +kernel)⟩
theorem okX9_exists : hb_okV mX9_exists 1 := ⟨⟨hb_w 11 (by decide +kernel) (by decide +kernel), hb_w 1574 (by decide +kernel) (by decide +kernel), ⟨by decide +kernel, by decide +kernel, by decide +kernel⟩, by decide⟩, hb_w 1572 (by decide +kernel) (by decide +kernel), hb_w 1573 (by decide +kernel) (by decide +kernel)⟩
theorem okX8_objects : hb_okV mX8_objects 0 := ⟨⟨hb_w 1 (by decide +kernel) (by decide +kernel), hb_w 450 (by decide +kernel) (by decide +kernel), ⟨by decide +kernel, by decide +kernel, by decide +kernel⟩, by decide⟩, hb_w 448 (by decide +kernel) (by decide +kernel), hb_w 449 (by decide +kernel) (by decide +kernel)⟩
theorem okX9_objects : hb_okV mX9_objects 0 := ⟨⟨hb_w 11 (by decide +kernel) (by decide +kernel), hb_w 1570 (by decide +kernel) (by decide +kernel), ⟨by decide +kernel, by decide +kernel, by decide +kernel⟩, by decide⟩, hb_w 1568 (by decide +kernel) (by decide +kernel), hb_w 1569 (by decide +kernel) (by decide +kernel)⟩
theorem okX8_collect : hb_okV mX8_collect 0 := ⟨⟨hb_w 1 (by decide +kernel) (by decide +kernel), hb_w 319 (by decide +kernel) (by decide +kernel), ⟨by decide +kernel, by decide +kernel, by decide +kernel⟩, by decide⟩, hb_w 317 (by decide +kernel) (by decide +kernel), hb_w 318 (by decide +kernel) (by decide +kernel)⟩
theorem okX9_collect : hb_okV mX9_collect 0 := ⟨⟨hb_w 11 (by decide +kernel) (by decide +kernel), hb_w 1549 (by decide +kernel) (by decide +kernel), ⟨by decide +kernel, by decide +kernel, by decide +kernel⟩, by decide⟩, hb_w 1547 (by decide +kernel) (by decide +kernel), hb_w 1548 (by decide +kernel) (by decide +kernel)⟩
theorem okL_removeRoot : hb_okX mL_removeRoot 4 := ⟨⟨hb_w 0 (by decide +kernel) (by decide +kernel), hb_w 1023 (by decide +kernel) (by decide +kernel), ⟨by decide +kernel, by decide +kernel, by decide +kernel⟩, by decide⟩, hb_w 1022 (by decide +kernel) (by decide +kernel)⟩
theorem okX9_removeRoot : hb_okV mX9_removeRoot 2 := ⟨⟨hb_w 11 (by decide +kernel) (by decide +kernel), hb_w 1541 (by decide +kernel) (by decide +kernel), ⟨by decide +kernel, by decide +kernel, by decide +kernel⟩, by decide⟩, hb_w 1539 (by decide +kernel) (by decide +kernel), hb_w 1540 (by decide +kernel) (by decide +kernel)⟩
theorem okL_addRoot : hb_okX mL_addRoot 4 := ⟨⟨hb_w 0 (by decide +kernel) (by decide +kernel), hb_w 1014 (by decide +kernel) (by decide +kernel), ⟨by decide +kernel, by decide +kernel, by decide +kernel⟩, by decide⟩, hb_w 1013 (by decide +kernel) (by decide +kernel)⟩
theorem okX9_addRoot : hb_okV mX9_addRoot 2 := ⟨⟨hb_w 11 (by decide +kernel) (by decide +kernel), hb_w 1533 (by decide +kernel) (by decide +kernel), ⟨by decide +kernel, by decide +kernel, by decide +kernel⟩, by decide⟩, hb_w 1531 (by decide +kernel) (by decide +kernel), hb_w 1532 (by decide +kernel) (by decide +kernel)⟩
theorem okL_referent : hb_okX mL_referent 3 := ⟨⟨hb_w 0 (by decide +kernel) (by decide +kernel), hb_w 1007 (by decide +kernel) (by decide +kernel), ⟨by decide +kernel, by decide +kernel, by decide +kernel⟩, by decide⟩, hb_w 1006 (by decide +kernel) (by decide +kernel)⟩
theorem okX9_referent : hb_okV mX9_referent 1 := ⟨⟨hb_w 11 (by decide +kernel) (by decide +kernel), hb_w 1529 (by decide +kernel) (by decide +kernel), ⟨by decide +kernel, by decide +kernel, by decide +kernel⟩, by decide⟩, hb_w 1527 (by decide +kernel) (by decide +kernel), hb_w 1528 (by decide +kernel) (by decide +kernel)⟩
theorem okL_resizeArray : hb_okX mL_resizeArray 4 := ⟨⟨hb_w 0 (by decide +kernel) (by decide +kernel), hb_w 992 (by decide +kernel) (by decide +kernel), ⟨by decide +kernel, by decide +kernel, by decide +kernel⟩, by decide⟩, hb_w 991 (by decide +kernel) (by decide +kernel)⟩
theorem okX9_resizeArray : hb_okV mX9_resizeArray 2 := ⟨⟨hb_w 11 (by decide +kernel) (by decide +kernel), hb_w 1525 (by decide +kernel) (by decide +kernel), ⟨by decide +kernel, by decide +kernel, by decide +kernel⟩, by decide⟩, hb_w 1523 (by decide +kernel) (by decide +kernel), hb_w 1524 (by decide +kernel) (by decide +kernel)⟩
theorem okL_get : hb_okX mL_get 4 := ⟨⟨hb_w 0 (by decide +kernel) (by decide +kernel), hb_w 984 (by decide +kernel) (by decide +kernel), ⟨by decide +kernel, by decide +kernel, by decide +kernel⟩, by decide⟩, hb_w 983 (by decide +kernel) (by decide +kernel)⟩
theorem okX9_get : hb_okV mX9_get 2 := ⟨⟨hb_w 11 (by decide +kernel) (by decide +kernel), hb_w 1521 (by decide +kernel) (by decide +kernel), ⟨by decide +kernel, by decide +kernel, by decide +kernel⟩, by decide⟩, hb_w 1519 (by decide +kernel) (by decide +kernel), hb_w 1520 (by decide +kernel) (by decide +kernel)⟩
theorem okL_set : hb_okX mL_set 5 := ⟨⟨hb_w 0 (by decide +kernel) (by decide +kernel), hb_w 975 (by decide +kernel) (by decide +kernel), ⟨by decide +kernel, by decide +kernel, by decide +kernel⟩, by decide⟩, hb_w 974 (by decide +kernel) (by decide +kernel)⟩
theorem okX9_set : hb_okV mX9_set 3 := ⟨⟨hb_w 11 (by decide +kernel) (by decide +kernel), hb_w 1509 (by decide +kernel) (by decide +kernel), ⟨by decide +kernel, by decide +kernel, by decide +kernel⟩, by decide⟩, hb_w 1507 (by decide +kernel) (by decide +kernel), hb_w 1508 (by decide +kernel) (by decide +kernel)⟩
theorem okL_newHolder : hb_okX mL_newHolder 2 := ⟨⟨hb_w 0 (by decide +kernel) (by decide +kernel), hb_w 966 (by decide +kernel) (by decide +kernel), ⟨by decide +kernel, by decide +kernel, by decide +kernel⟩, by decide⟩, hb_w 965 (by decide +kernel) (by decide +kernel)⟩
theorem okX9_newHolder : hb_okV mX9_newHolder 0 := ⟨⟨hb_w 11 (by decide +kernel) (by decide +kernel), hb_w 1505 (by decide +kernel) (by decide +kernel), ⟨by decide +kernel, by decide +kernel, by decide +kernel⟩, by decide⟩, hb_w 1503 (by decide +kernel) (by decide +kernel), hb_w 1504 (by decide +kernel) (by decide +kernel)⟩
theorem okL_newArray : hb_okX mL_newArray 3 := ⟨⟨hb_w 0 (by decide +kernel) (by decide +kernel), hb_w 957 (by decide +kernel) (by decide +kernel), ⟨by decide +kernel, by decide +kernel, by decide +kernel⟩, by decide⟩, hb_w 956 (by decide +kernel) (by decide +kernel)⟩
theorem okX9_newArray : hb_okV mX9_newArray 1 := ⟨⟨hb_w 11 (by decide +kernel) (by decide +kernel), hb_w 1497 (by decide +kernel) (by decide +kernel), ⟨by decide +kernel, by decide +kernel, by decide +kernel⟩, by decide⟩, hb_w 1495 (by decide +kernel) (by decide +kernel), hb_w 1496 (by decide +kernel) (by decide +kernel)⟩
theorem okL_newInstance : hb_okX mL_newInstance 3 := ⟨⟨hb_w 0 (by decide +kernel) (by decide +kernel), hb_w 948 (by decide +kernel) (by decide +kernel), ⟨by decide +kernel, by decide +kernel, by decide +kernel⟩, by decide⟩, hb_w 947 (by decide +kernel) (by decide +kernel)⟩
theorem okX9_newInstance : hb_okV mX9_newInstance 1 := ⟨⟨hb_w 11 (by decide +kernel) (by decide +kernel), hb_w 1474 (by decide +kernel) (by decide +kernel), ⟨by decide +kernel, by decide +kernel, by decide +kernel⟩, by decide⟩, hb_w 1472 (by decide +kernel) (by decide +kernel), hb_w 1473 (by decide +kernel) (by decide +kernel)⟩
theorem okL_isSubclass : hb_okX mL_isSubclass 4 := ⟨⟨hb_w 0 (by decide +kernel) (by decide +kernel), hb_w 937 (by decide +kernel) (by decide +kernel), ⟨by decide +kernel, by decide +kernel, by decide +kernel⟩, by decide⟩, hb_w 936 (by decide +kernel) (by decide +kernel)⟩
theorem okX9_isSubclass : hb_okV mX9_isSubclass 2 := ⟨⟨hb_w 11 (by decide +kernel) (by decide +kernel), hb_w 1466 (by decide +kernel) (by decide +kernel), ⟨by decide +kernel, by decide +kernel, by decide +kernel⟩, by decide⟩, hb_w 1464 (by decide +kernel) (by decide +kernel), hb_w 1465 (by decide +kernel) (by decide +kernel)⟩
theorem okL_classInfo : hb_okX mL_classInfo 4 := ⟨⟨hb_w 0 (by decide +kernel) (by decide +kernel), hb_w 928 (by decide +kernel) (by decide +kernel), ⟨by decide +kernel, by decide +kernel, by decide +kernel⟩, by decide⟩, hb_w 927 (by decide +kernel) (by decide +kernel)⟩
theorem okX9_classInfo : hb_okV mX9_classInfo 2 := ⟨⟨hb_w 11 (by decide +kernel) (by decide +kernel), hb_w 1454 (by decide +kernel) (by decide +kernel), ⟨by decide +kernel, by decide +kernel, by decide +kernel⟩, by decide⟩, hb_w 1452 (by decide +kernel) (by decide +kernel), hb_w 1453 (by decide +kernel) (by decide +kernel)⟩
theorem okX8_classes : hb_okV mX8_classes 0 := ⟨⟨hb_w 1 (by decide +kernel) (by decide +kernel), hb_w 315 (by decide +kernel) (by decide +kernel), ⟨by decide +kernel, by decide +kernel, by decide +kernel⟩, by decide⟩, hb_w 313 (by decide +kernel) (by decide +kernel), hb_w 314 (by decide +kernel) (by decide +kernel)⟩
theorem okX9_classes : hb_okV mX9_classes 0 := ⟨⟨hb_w 11 (by decide +kernel) (by decide +kernel), hb_w 1450 (by decide +kernel) (by decide +kernel), ⟨by decide +kernel, by decide +kernel, by decide +kernel⟩, by decide⟩, hb_w 1448 (by decide +kernel) (by decide +kernel), hb_w 1449 (by decide +kernel) (by decide +kernel)⟩
theorem okL_defineClass : hb_okX mL_defineClass 5 := ⟨⟨hb_w 0 (by decide +kernel) (by decide +kernel), hb_w 814 (by decide +kernel) (by decide +kernel), ⟨by decide +kernel, by decide +kernel, by decide +kernel⟩, by decide⟩, hb_w 813 (by decide +kernel) (by decide +kernel)⟩
theorem okX9_defineClass : hb_okV mX9_defineClass 3 := ⟨⟨hb_w 11 (by decide +kernel) (by decide +kernel), hb_w 1427 (by decide +kernel) (by decide +kernel), ⟨by decide +kernel, by decide +kernel, by decide +kernel⟩, by decide⟩, hb_w 1425 (by decide +kernel) (by decide +kernel), hb_w 1426 (by decide +kernel) (by decide +kernel)⟩
theorem okX8_init : hb_okI mX8_init 0 := ⟨⟨hb_w 1 (by decide +kernel) (by decide +kernel), hb_w 33 (by decide +kernel) (by decide +kernel), ⟨by decide +kernel, by decide +kernel, by decide +kernel⟩, by decide⟩, rfl, hb_w 32 (by decide +kernel) (by decide +kernel), rfl⟩
theorem okX9_init : hb_okI mX9_init 0 := ⟨⟨hb_w 11 (by decide +kernel) (by decide +kernel), hb_w 1322 (by decide +kernel) (by decide +kernel), ⟨by decide +kernel, by decide +kernel, by decide +kernel⟩, by decide⟩, rfl, hb_w 1321 (by decide +kernel) (by decide +kernel), rfl⟩
def mL_law : hb_Y := (x, cL_law, 8, (some .boolean), [], true)
set_option maxHeartbeats 4000000 in
set_option maxRecDepth 20000 in
theorem c_L_law_b2704 {G : hb_G} {l : Launch} (hl : l.stackTraces = false) {n : Nat}  (k23 : Nat → Nat → Nat → Int32 → hb_M → Option (Int32 × hb_M)) (hk23 : ∀ (x1 : Nat) (x2 : Nat) (x3 : Nat) (x4 : Int32) (σ : hb_M) (r : (Int32 × hb_M)), k23 x1 x2 x3 x4 σ = some r → hb_T G l true mL_law 83 (3 * n) (18 * n) 23 [(0, .retAddr 0), (1, .ref x1), (2, .ref x2), (3, .ref x3), (4, .int x4)] [] σ (.inl (some (.int r.1)), r.2))  {x1 : Nat} {x2 : Nat} {x3 : Nat} {x4 : Int32} {σ : hb_M} {r : (Int32 × hb_M)} (h : f_L_law_b2704 G.2.2.2.2.1 G.2.2.2.2.2 k23 x1 x2 x3 x4 σ = some r) : hb_T G l true mL_law 83 (3 * n) (18 * n) 2704 [(0, .retAddr 0), (1, .ref x1), (2, .ref x2), (3, .ref x3), (4, .int x4)] [] σ (.inl (some (.int r.1)), r.2) := by
  unfold f_L_law_b2704 at h
  refine hs_iinc2 (k := (4 : Int32)) (lv' := [(4, .int (x4 + (4 : Int32))), (0, .retAddr 0), (1, .ref x1), (2, .ref x2), (3, .ref x3)]) dL_law_2704 (by decide) 4 rfl (by decide) rfl ?_
  refine hs_goto (tgt := 23) dL_law_2707 (by decide) ?_
  refine hs_sub (lv' := [(0, .retAddr 0), (1, .ref x1), (2, .ref x2), (3, .ref x3), (4, .int (x4 + (4 : Int32)))]) [1, 2, 3, 4, 0] rfl ?_
  refine hs_weak (rc' := (3 * n)) (rs' := (18 * n)) (by omega) (by omega) ?_
  exact hk23 _ _ _ _ _ _ h
set_option maxHeartbeats 4000000 in
set_option maxRecDepth 20000 in
theorem c_L_law_b2690 {G : hb_G} {l : Launch} (hl : l.stackTraces = false) {n : Nat}  (k23 : Nat → Nat → Nat → Int32 → hb_M → Option (Int32 × hb_M)) (hk23 : ∀ (x1 : Nat) (x2 : Nat) (x3 : Nat) (x4 : Int32) (σ : hb_M) (r : (Int32 × hb_M)), k23 x1 x2 x3 x4 σ = some r → hb_T G l true mL_law 83 (3 * n) (18 * n) 23 [(0, .retAddr 0), (1, .ref x1), (2, .ref x2), (3, .ref x3), (4, .int x4)] [] σ (.inl (some (.int r.1)), r.2))  {x1 : Nat} {x2 : Nat} {x3 : Nat} {x4 : Int32} {σ : hb_M} {r : (Int32 × hb_M)} (h : f_L_law_b2690 G.2.2.2.2.1 G.2.2.2.2.2 k23 x1 x2 x3 x4 σ = some r) : hb_T G l true mL_law 83 (3 * n + 3) (18 * n + 18) 2690 [(0, .retAddr 0), (1, .ref x1), (2, .ref x2), (3, .ref x3), (4, .int x4)] [] σ (.inl (some (.int r.1)), r.2) := by
  unfold f_L_law_b2690 at h
  refine hs_aload_n dL_law_2690 1 rfl ?_
  refine hs_weak (rc' := 0 + 3 * n) (rs' := 0 + 18 * n) (by omega) (by omega) ?_
  obtain ⟨r1, h1, h⟩ := hb_bind h
  obtain ⟨h1, nf1, hb1⟩ := hb_on_at h1
  refine hs_callVl (μ' := mX8_digest) (mc := 0) (ms := 0) (rc := (3 * n)) (rs := (18 * n)) (As := []) (rest := []) (ci := 8) dL_law_2691 lmL_290 okX8_digest rfl (by decide) rfl (Nat.le_of_ble_eq_true rfl) rfl hb1 (c_X8_digest h1) ?_
  refine hs_aload_n dL_law_2694 2 rfl ?_
  refine hs_weak (rc' := 0 + 3 * n) (rs' := 0 + 18 * n) (by omega) (by omega) ?_
  obtain ⟨r2, h2, h⟩ := hb_bind h
  obtain ⟨h2, nf2, hb2⟩ := hb_on_at h2
  refine hs_callVl (μ' := mX9_digest) (mc := 0) (ms := 0) (rc := (3 * n)) (rs := (18 * n)) (As := []) (rest := [.long r1.1]) (ci := 9) dL_law_2695 lmL_294 okX9_digest rfl (by decide) rfl (Nat.le_of_ble_eq_true rfl) rfl hb2 (c_X9_digest h2) ?_
  refine hs_lcmp dL_law_2698 ?_
  refine hs_if_eq (tgt := 2704) dL_law_2699 (by decide) (fun hc3 => ?_) (fun hc3 => ?_)
  · rw [if_pos hc3] at h
    refine hs_sub (lv' := [(0, .retAddr 0), (1, .ref x1), (2, .ref x2), (3, .ref x3), (4, .int x4)]) [0, 1, 2, 3, 4] rfl ?_
    refine hs_weak (rc' := (3 * n)) (rs' := (18 * n)) (by omega) (by omega) ?_
    exact c_L_law_b2704 hl k23 hk23 h
  · rw [if_neg hc3] at h
    refine hs_iconst (v := (0 : Int32)) dL_law_2702 (by decide) ?_
    obtain rfl := Option.some.inj h
    exact hs_ireturn dL_law_2703 rfl (by decide) (fun h => by cases h)
set_option maxHeartbeats 4000000 in
set_option maxRecDepth 20000 in
theorem c_L_law_b2687 {G : hb_G} {l : Launch} (hl : l.stackTraces = false) {n : Nat}  (k23 : Nat → Nat → Nat → Int32 → hb_M → Option (Int32 × hb_M)) (hk23 : ∀ (x1 : Nat) (x2 : Nat) (x3 : Nat) (x4 : Int32) (σ : hb_M) (r : (Int32 × hb_M)), k23 x1 x2 x3 x4 σ = some r → hb_T G l true mL_law 83 (3 * n) (18 * n) 23 [(0, .retAddr 0), (1, .ref x1), (2, .ref x2), (3, .ref x3), (4, .int x4)] [] σ (.inl (some (.int r.1)), r.2))  {x1 : Nat} {x2 : Nat} {x3 : Nat} {x4 : Int32} {σ : hb_M} {r : (Int32 × hb_M)} (h : f_L_law_b2687 G.2.2.2.2.1 G.2.2.2.2.2 k23 x1 x2 x3 x4 σ = some r) : hb_T G l true mL_law 83 (3 * n) (18 * n) 2687 [(0, .retAddr 0), (1, .ref x1), (2, .ref x2), (3, .ref x3), (4, .int x4)] [] σ (.inl (some (.int r.1)), r.2) := by
  unfold f_L_law_b2687 at h
  refine hs_goto (tgt := 2704) dL_law_2687 (by decide) ?_
  refine hs_sub (lv' := [(0, .retAddr 0), (1, .ref x1), (2, .ref x2), (3, .ref x3), (4, .int x4)]) [0, 1, 2, 3, 4] rfl ?_
  refine hs_weak (rc' := (3 * n)) (rs' := (18 * n)) (by omega) (by omega) ?_
  exact c_L_law_b2704 hl k23 hk23 h
set_option maxHeartbeats 4000000 in
set_option maxRecDepth 20000 in
theorem c_L_law_b2646 {G : hb_G} {l : Launch} (hl : l.stackTraces = false) {n : Nat}  (k23 : Nat → Nat → Nat → Int32 → hb_M → Option (Int32 × hb_M)) (hk23 : ∀ (x1 : Nat) (x2 : Nat) (x3 : Nat) (x4 : Int32) (σ : hb_M) (r : (Int32 × hb_M)), k23 x1 x2 x3 x4 σ = some r → hb_T G l true mL_law 83 (3 * n) (18 * n) 23 [(0, .retAddr 0), (1, .ref x1), (2, .ref x2), (3, .ref x3), (4, .int x4)] [] σ (.inl (some (.int r.1)), r.2))  {x1 : Nat} {x2 : Nat} {x3 : Nat} {x4 : Int32} {σ : hb_M} {r : (Int32 × hb_M)} (h : f_L_law_b2646 G.2.2.2.2.1 G.2.2.2.2.2 k23 x1 x2 x3 x4 σ = some r) : hb_T G l true mL_law 83 (3 * n + 3) (18 * n + 18) 2646 [(0, .retAddr 0), (1, .ref x1), (2, .ref x2), (3, .ref x3), (4, .int x4)] [] σ (.inl (some (.int r.1)), r.2) := by
  unfold f_L_law_b2646 at h
  refine hs_aload_n dL_law_2646 1 rfl ?_
  refine hs_aload_n dL_law_2647 3 rfl ?_
  refine hs_weak (rc' := 1 + 3 * n) (rs' := 6 + 18 * n) (by omega) (by omega) ?_
  obtain ⟨r1, h1, h⟩ := hb_bind h
  refine hs_callSXi (μ' := mL_undo) (mc := 1) (ms := 6) (rc := (3 * n)) (rs := (18 * n)) (As := [.ref x1, .ref x3]) (rest := []) dL_law_2648 lmL_287 okL_undo rfl (by decide) rfl (Nat.le_of_ble_eq_true rfl) (c_L_undo hl h1) ?_
  refine hs_istore (lv' := [(5, .int r1.1), (0, .retAddr 0), (1, .ref x1), (2, .ref x2), (3, .ref x3), (4, .int x4)]) dL_law_2651 (by decide) rfl ?_
  refine hs_aload_n dL_law_2653 3 rfl ?_
  refine hs_weak (rc' := 0 + 3 * n) (rs' := 0 + 18 * n) (by omega) (by omega) ?_
  obtain ⟨r2, h2, h⟩ := hb_bind h
  obtain ⟨h2, nf2, hb2⟩ := hb_on_at h2
  refine hs_callVi (μ' := mX9_undo) (mc := 0) (ms := 0) (rc := (3 * n)) (rs := (18 * n)) (As := []) (rest := []) (ci := 9) dL_law_2654 lmL_289 okX9_undo rfl (by decide) rfl (Nat.le_of_ble_eq_true rfl) rfl hb2 (c_X9_undo h2) ?_
  refine hs_istore (lv' := [(6, .int r2.1), (5, .int r1.1), (0, .retAddr 0), (1, .ref x1), (2, .ref x2), (3, .ref x3), (4, .int x4)]) dL_law_2657 (by decide) rfl ?_
  refine hs_aload_n dL_law_2659 4 rfl ?_
  refine hs_weak (rc' := 0 + 3 * n) (rs' := 0 + 18 * n) (by omega) (by omega) ?_
  obtain ⟨r3, h3, h⟩ := hb_bind h
  obtain ⟨h3, nf3, hb3⟩ := hb_on_at h3
  refine hs_callVi (μ' := mX9_thrown) (mc := 0) (ms := 0) (rc := (3 * n)) (rs := (18 * n)) (As := []) (rest := []) (ci := 9) dL_law_2660 lmL_140 okX9_thrown rfl (by decide) rfl (Nat.le_of_ble_eq_true rfl) rfl hb3 (c_X9_thrown h3) ?_
  refine hs_iload dL_law_2663 1 rfl ?_
  refine hs_icmp_eq (tgt := 2670) dL_law_2665 (by decide) (fun hc4 => ?_) (fun hc4 => ?_)
  · rw [if_pos hc4] at h
    refine hs_iload dL_law_2670 1 rfl ?_
    refine hs_if_ne (tgt := 2687) dL_law_2672 (by decide) (fun hc5 => ?_) (fun hc5 => ?_)
    · rw [if_neg hc5] at h
      refine hs_sub (lv' := [(0, .retAddr 0), (1, .ref x1), (2, .ref x2), (3, .ref x3), (4, .int x4)]) [2, 3, 4, 5, 6] rfl ?_
      refine hs_weak (rc' := (3 * n)) (rs' := (18 * n)) (by omega) (by omega) ?_
      exact c_L_law_b2687 hl k23 hk23 h
    · rw [if_pos hc5] at h
      refine hs_aload_n dL_law_2675 5 rfl ?_
      refine hs_iconst (v := (0 : Int32)) dL_law_2676 (by decide) ?_
      obtain ⟨r6, h6, h⟩ := hb_bind h
      refine hs_lald dL_law_2677 h6 ?_
      refine hs_iload dL_law_2678 0 rfl ?_
      refine hs_i2l dL_law_2680 ?_
      refine hs_lcmp dL_law_2681 ?_
      refine hs_if_eq (tgt := 2687) dL_law_2682 (by decide) (fun hc7 => ?_) (fun hc7 => ?_)
      · rw [if_pos hc7] at h
        refine hs_sub (lv' := [(0, .retAddr 0), (1, .ref x1), (2, .ref x2), (3, .ref x3), (4, .int x4)]) [2, 3, 4, 5, 6] rfl ?_
        refine hs_weak (rc' := (3 * n)) (rs' := (18 * n)) (by omega) (by omega) ?_
        exact c_L_law_b2687 hl k23 hk23 h
      · rw [if_neg hc7] at h
        refine hs_iconst (v := (0 : Int32)) dL_law_2685 (by decide) ?_
        obtain rfl := Option.some.inj h
        exact hs_ireturn dL_law_2686 rfl (by decide) (fun h => by cases h)
  · rw [if_neg hc4] at h
    refine hs_iconst (v := (0 : Int32)) dL_law_2668 (by decide) ?_
    obtain rfl := Option.some.inj h
    exact hs_ireturn dL_law_2669 rfl (by decide) (fun h => by cases h)
set_option maxHeartbeats 4000000 in
set_option maxRecDepth 20000 in
theorem c_L_law_b2643 {G : hb_G} {l : Launch} (hl : l.stackTraces = false) {n : Nat}  (k23 : Nat → Nat → Nat → Int32 → hb_M → Option (Int32 × hb_M)) (hk23 : ∀ (x1 : Nat) (x2 : Nat) (x3 : Nat) (x4 : Int32) (σ : hb_M) (r : (Int32 × hb_M)), k23 x1 x2 x3 x4 σ = some r → hb_T G l true mL_law 83 (3 * n) (18 * n) 23 [(0, .retAddr 0), (1, .ref x1), (2, .ref x2), (3, .ref x3), (4, .int x4)] [] σ (.inl (some (.int r.1)), r.2))  {x1 : Nat} {x2 : Nat} {x3 : Nat} {x4 : Int32} {σ : hb_M} {r : (Int32 × hb_M)} (h : f_L_law_b2643 G.2.2.2.2.1 G.2.2.2.2.2 k23 x1 x2 x3 x4 σ = some r) : hb_T G l true mL_law 83 (3 * n) (18 * n) 2643 [(0, .retAddr 0), (1, .ref x1), (2, .ref x2), (3, .ref x3), (4, .int x4)] [] σ (.inl (some (.int r.1)), r.2) := by
  unfold f_L_law_b2643 at h
  refine hs_goto (tgt := 2704) dL_law_2643 (by decide) ?_
  refine hs_sub (lv' := [(0, .retAddr 0), (1, .ref x1), (2, .ref x2), (3, .ref x3), (4, .int x4)]) [0, 1, 2, 3, 4] rfl ?_
  refine hs_weak (rc' := (3 * n)) (rs' := (18 * n)) (by omega) (by omega) ?_
  exact c_L_law_b2704 hl k23 hk23 h
set_option maxHeartbeats 4000000 in
set_option maxRecDepth 20000 in
theorem c_L_law_b2578 {G : hb_G} {l : Launch} (hl : l.stackTraces = false) {n : Nat}  (k23 : Nat → Nat → Nat → Int32 → hb_M → Option (Int32 × hb_M)) (hk23 : ∀ (x1 : Nat) (x2 : Nat) (x3 : Nat) (x4 : Int32) (σ : hb_M) (r : (Int32 × hb_M)), k23 x1 x2 x3 x4 σ = some r → hb_T G l true mL_law 83 (3 * n) (18 * n) 23 [(0, .retAddr 0), (1, .ref x1), (2, .ref x2), (3, .ref x3), (4, .int x4)] [] σ (.inl (some (.int r.1)), r.2))  {x1 : Nat} {x2 : Nat} {x3 : Nat} {x4 : Int32} {σ : hb_M} {r : (Int32 × hb_M)} (h : f_L_law_b2578 G.2.2.2.2.1 G.2.2.2.2.2 k23 x1 x2 x3 x4 σ = some r) : hb_T G l true mL_law 83 (3 * n + 3) (18 * n + 18) 2578 [(0, .retAddr 0), (1, .ref x1), (2, .ref x2), (3, .ref x3), (4, .int x4)] [] σ (.inl (some (.int r.1)), r.2) := by
  unfold f_L_law_b2578 at h
  refine hs_aload_n dL_law_2578 1 rfl ?_
  refine hs_sload_n dL_law_2579 0 rfl ?_
  refine hs_iload dL_law_2580 4 rfl ?_
  refine hs_iconst (v := (1 : Int32)) dL_law_2582 (by decide) ?_
  refine hs_iadd dL_law_2583 ?_
  by_cases hc1 : (x4 + (1 : Int32)) < 0 ∨ G.2.2.2.2.1 ≤ (x4 + (1 : Int32)).toNatClampNeg
  · rw [if_pos hc1] at h
    cases h
  rw [if_neg hc1] at h
  refine hs_sld hc1 dL_law_2584 ?_
  refine hs_sload_n dL_law_2585 0 rfl ?_
  refine hs_iload dL_law_2586 4 rfl ?_
  refine hs_iconst (v := (2 : Int32)) dL_law_2588 (by decide) ?_
  refine hs_iadd dL_law_2589 ?_
  by_cases hc2 : (x4 + (2 : Int32)) < 0 ∨ G.2.2.2.2.1 ≤ (x4 + (2 : Int32)).toNatClampNeg
  · rw [if_pos hc2] at h
    cases h
  rw [if_neg hc2] at h
  refine hs_sld hc2 dL_law_2590 ?_
  refine hs_aload_n dL_law_2591 3 rfl ?_
  refine hs_weak (rc' := 2 + 3 * n) (rs' := 12 + 18 * n) (by omega) (by omega) ?_
  obtain ⟨r3, h3, h⟩ := hb_bind h
  refine hs_callSXi (μ' := mL_growth) (mc := 2) (ms := 12) (rc := (3 * n)) (rs := (18 * n)) (As := [.ref x1, .int (G.2.2.2.2.2 (x4 + (1 : Int32)).toNatClampNeg), .int (G.2.2.2.2.2 (x4 + (2 : Int32)).toNatClampNeg), .ref x3]) (rest := []) dL_law_2592 lmL_284 okL_growth rfl (by decide) rfl (Nat.le_of_ble_eq_true rfl) (c_L_growth hl h3) ?_
  refine hs_istore (lv' := [(5, .int r3.1), (0, .retAddr 0), (1, .ref x1), (2, .ref x2), (3, .ref x3), (4, .int x4)]) dL_law_2595 (by decide) rfl ?_
  refine hs_aload_n dL_law_2597 3 rfl ?_
  refine hs_sload_n dL_law_2598 1 rfl ?_
  refine hs_iload dL_law_2599 5 rfl ?_
  refine hs_iconst (v := (1 : Int32)) dL_law_2601 (by decide) ?_
  refine hs_iadd dL_law_2602 ?_
  by_cases hc4 : (x4 + (1 : Int32)) < 0 ∨ G.2.2.2.2.1 ≤ (x4 + (1 : Int32)).toNatClampNeg
  · rw [if_pos hc4] at h
    cases h
  rw [if_neg hc4] at h
  refine hs_sld hc4 dL_law_2603 ?_
  refine hs_sload_n dL_law_2604 1 rfl ?_
  refine hs_iload dL_law_2605 5 rfl ?_
  refine hs_iconst (v := (2 : Int32)) dL_law_2607 (by decide) ?_
  refine hs_iadd dL_law_2608 ?_
  by_cases hc5 : (x4 + (2 : Int32)) < 0 ∨ G.2.2.2.2.1 ≤ (x4 + (2 : Int32)).toNatClampNeg
  · rw [if_pos hc5] at h
    cases h
  rw [if_neg hc5] at h
  refine hs_sld hc5 dL_law_2609 ?_
  refine hs_weak (rc' := 0 + 3 * n) (rs' := 0 + 18 * n) (by omega) (by omega) ?_
  obtain ⟨r6, h6, h⟩ := hb_bind h
  obtain ⟨h6, nf6, hb6⟩ := hb_on_at h6
  refine hs_callVi (μ' := mX9_growth) (mc := 0) (ms := 0) (rc := (3 * n)) (rs := (18 * n)) (As := [.int (G.2.2.2.2.2 (x4 + (1 : Int32)).toNatClampNeg), .int (G.2.2.2.2.2 (x4 + (2 : Int32)).toNatClampNeg)]) (rest := []) (ci := 9) dL_law_2610 lmL_286 okX9_growth rfl (by decide) rfl (Nat.le_of_ble_eq_true rfl) rfl hb6 (c_X9_growth h6) ?_
  refine hs_istore (lv' := [(6, .int r6.1), (5, .int r3.1), (0, .retAddr 0), (1, .ref x1), (2, .ref x2), (3, .ref x3), (4, .int x4)]) dL_law_2613 (by decide) rfl ?_
  refine hs_aload_n dL_law_2615 4 rfl ?_
  refine hs_weak (rc' := 0 + 3 * n) (rs' := 0 + 18 * n) (by omega) (by omega) ?_
  obtain ⟨r7, h7, h⟩ := hb_bind h
  obtain ⟨h7, nf7, hb7⟩ := hb_on_at h7
  refine hs_callVi (μ' := mX9_thrown) (mc := 0) (ms := 0) (rc := (3 * n)) (rs := (18 * n)) (As := []) (rest := []) (ci := 9) dL_law_2616 lmL_140 okX9_thrown rfl (by decide) rfl (Nat.le_of_ble_eq_true rfl) rfl hb7 (c_X9_thrown h7) ?_
  refine hs_iload dL_law_2619 1 rfl ?_
  refine hs_icmp_eq (tgt := 2626) dL_law_2621 (by decide) (fun hc8 => ?_) (fun hc8 => ?_)
  · rw [if_pos hc8] at h
    refine hs_iload dL_law_2626 1 rfl ?_
    refine hs_if_ne (tgt := 2643) dL_law_2628 (by decide) (fun hc9 => ?_) (fun hc9 => ?_)
    · rw [if_neg hc9] at h
      refine hs_sub (lv' := [(0, .retAddr 0), (1, .ref x1), (2, .ref x2), (3, .ref x3), (4, .int x4)]) [2, 3, 4, 5, 6] rfl ?_
      refine hs_weak (rc' := (3 * n)) (rs' := (18 * n)) (by omega) (by omega) ?_
      exact c_L_law_b2643 hl k23 hk23 h
    · rw [if_pos hc9] at h
      refine hs_aload_n dL_law_2631 5 rfl ?_
      refine hs_iconst (v := (0 : Int32)) dL_law_2632 (by decide) ?_
      obtain ⟨r10, h10, h⟩ := hb_bind h
      refine hs_lald dL_law_2633 h10 ?_
      refine hs_iload dL_law_2634 0 rfl ?_
      refine hs_i2l dL_law_2636 ?_
      refine hs_lcmp dL_law_2637 ?_
      refine hs_if_eq (tgt := 2643) dL_law_2638 (by decide) (fun hc11 => ?_) (fun hc11 => ?_)
      · rw [if_pos hc11] at h
        refine hs_sub (lv' := [(0, .retAddr 0), (1, .ref x1), (2, .ref x2), (3, .ref x3), (4, .int x4)]) [2, 3, 4, 5, 6] rfl ?_
        refine hs_weak (rc' := (3 * n)) (rs' := (18 * n)) (by omega) (by omega) ?_
        exact c_L_law_b2643 hl k23 hk23 h
      · rw [if_neg hc11] at h
        refine hs_iconst (v := (0 : Int32)) dL_law_2641 (by decide) ?_
        obtain rfl := Option.some.inj h
        exact hs_ireturn dL_law_2642 rfl (by decide) (fun h => by cases h)
  · rw [if_neg hc8] at h
    refine hs_iconst (v := (0 : Int32)) dL_law_2624 (by decide) ?_
    obtain rfl := Option.some.inj h
    exact hs_ireturn dL_law_2625 rfl (by decide) (fun h => by cases h)
set_option maxHeartbeats 4000000 in
set_option maxRecDepth 20000 in
theorem c_L_law_b2575 {G : hb_G} {l : Launch} (hl : l.stackTraces = false) {n : Nat}  (k23 : Nat → Nat → Nat → Int32 → hb_M → Option (Int32 × hb_M)) (hk23 : ∀ (x1 : Nat) (x2 : Nat) (x3 : Nat) (x4 : Int32) (σ : hb_M) (r : (Int32 × hb_M)), k23 x1 x2 x3 x4 σ = some r → hb_T G l true mL_law 83 (3 * n) (18 * n) 23 [(0, .retAddr 0), (1, .ref x1), (2, .ref x2), (3, .ref x3), (4, .int x4)] [] σ (.inl (some (.int r.1)), r.2))  {x1 : Nat} {x2 : Nat} {x3 : Nat} {x4 : Int32} {σ : hb_M} {r : (Int32 × hb_M)} (h : f_L_law_b2575 G.2.2.2.2.1 G.2.2.2.2.2 k23 x1 x2 x3 x4 σ = some r) : hb_T G l true mL_law 83 (3 * n) (18 * n) 2575 [(0, .retAddr 0), (1, .ref x1), (2, .ref x2), (3, .ref x3), (4, .int x4)] [] σ (.inl (some (.int r.1)), r.2) := by
  unfold f_L_law_b2575 at h
  refine hs_goto (tgt := 2704) dL_law_2575 (by decide) ?_
  refine hs_sub (lv' := [(0, .retAddr 0), (1, .ref x1), (2, .ref x2), (3, .ref x3), (4, .int x4)]) [0, 1, 2, 3, 4] rfl ?_
  refine hs_weak (rc' := (3 * n)) (rs' := (18 * n)) (by omega) (by omega) ?_
  exact c_L_law_b2704 hl k23 hk23 h
set_option maxHeartbeats 4000000 in
set_option maxRecDepth 20000 in
theorem c_L_law_b2510 {G : hb_G} {l : Launch} (hl : l.stackTraces = false) {n : Nat}  (k23 : Nat → Nat → Nat → Int32 → hb_M → Option (Int32 × hb_M)) (hk23 : ∀ (x1 : Nat) (x2 : Nat) (x3 : Nat) (x4 : Int32) (σ : hb_M) (r : (Int32 × hb_M)), k23 x1 x2 x3 x4 σ = some r → hb_T G l true mL_law 83 (3 * n) (18 * n) 23 [(0, .retAddr 0), (1, .ref x1), (2, .ref x2), (3, .ref x3), (4, .int x4)] [] σ (.inl (some (.int r.1)), r.2))  {x1 : Nat} {x2 : Nat} {x3 : Nat} {x4 : Int32} {σ : hb_M} {r : (Int32 × hb_M)} (h : f_L_law_b2510 G.2.2.2.2.1 G.2.2.2.2.2 k23 x1 x2 x3 x4 σ = some r) : hb_T G l true mL_law 83 (3 * n + 3) (18 * n + 18) 2510 [(0, .retAddr 0), (1, .ref x1), (2, .ref x2), (3, .ref x3), (4, .int x4)] [] σ (.inl (some (.int r.1)), r.2) := by
  unfold f_L_law_b2510 at h
  refine hs_aload_n dL_law_2510 1 rfl ?_
  refine hs_sload_n dL_law_2511 0 rfl ?_
  refine hs_iload dL_law_2512 4 rfl ?_
  refine hs_iconst (v := (1 : Int32)) dL_law_2514 (by decide) ?_
  refine hs_iadd dL_law_2515 ?_
  by_cases hc1 : (x4 + (1 : Int32)) < 0 ∨ G.2.2.2.2.1 ≤ (x4 + (1 : Int32)).toNatClampNeg
  · rw [if_pos hc1] at h
    cases h
  rw [if_neg hc1] at h
  refine hs_sld hc1 dL_law_2516 ?_
  refine hs_sload_n dL_law_2517 0 rfl ?_
  refine hs_iload dL_law_2518 4 rfl ?_
  refine hs_iconst (v := (2 : Int32)) dL_law_2520 (by decide) ?_
  refine hs_iadd dL_law_2521 ?_
  by_cases hc2 : (x4 + (2 : Int32)) < 0 ∨ G.2.2.2.2.1 ≤ (x4 + (2 : Int32)).toNatClampNeg
  · rw [if_pos hc2] at h
    cases h
  rw [if_neg hc2] at h
  refine hs_sld hc2 dL_law_2522 ?_
  refine hs_aload_n dL_law_2523 3 rfl ?_
  refine hs_weak (rc' := 2 + 3 * n) (rs' := 12 + 18 * n) (by omega) (by omega) ?_
  obtain ⟨r3, h3, h⟩ := hb_bind h
  refine hs_callSXi (μ' := mL_compare) (mc := 2) (ms := 12) (rc := (3 * n)) (rs := (18 * n)) (As := [.ref x1, .int (G.2.2.2.2.2 (x4 + (1 : Int32)).toNatClampNeg), .int (G.2.2.2.2.2 (x4 + (2 : Int32)).toNatClampNeg), .ref x3]) (rest := []) dL_law_2524 lmL_281 okL_compare rfl (by decide) rfl (Nat.le_of_ble_eq_true rfl) (c_L_compare hl h3) ?_
  refine hs_istore (lv' := [(5, .int r3.1), (0, .retAddr 0), (1, .ref x1), (2, .ref x2), (3, .ref x3), (4, .int x4)]) dL_law_2527 (by decide) rfl ?_
  refine hs_aload_n dL_law_2529 3 rfl ?_
  refine hs_sload_n dL_law_2530 1 rfl ?_
  refine hs_iload dL_law_2531 5 rfl ?_
  refine hs_iconst (v := (1 : Int32)) dL_law_2533 (by decide) ?_
  refine hs_iadd dL_law_2534 ?_
  by_cases hc4 : (x4 + (1 : Int32)) < 0 ∨ G.2.2.2.2.1 ≤ (x4 + (1 : Int32)).toNatClampNeg
  · rw [if_pos hc4] at h
    cases h
  rw [if_neg hc4] at h
  refine hs_sld hc4 dL_law_2535 ?_
  refine hs_sload_n dL_law_2536 1 rfl ?_
  refine hs_iload dL_law_2537 5 rfl ?_
  refine hs_iconst (v := (2 : Int32)) dL_law_2539 (by decide) ?_
  refine hs_iadd dL_law_2540 ?_
  by_cases hc5 : (x4 + (2 : Int32)) < 0 ∨ G.2.2.2.2.1 ≤ (x4 + (2 : Int32)).toNatClampNeg
  · rw [if_pos hc5] at h
    cases h
  rw [if_neg hc5] at h
  refine hs_sld hc5 dL_law_2541 ?_
  refine hs_weak (rc' := 0 + 3 * n) (rs' := 0 + 18 * n) (by omega) (by omega) ?_
  obtain ⟨r6, h6, h⟩ := hb_bind h
  obtain ⟨h6, nf6, hb6⟩ := hb_on_at h6
  refine hs_callVi (μ' := mX9_compare) (mc := 0) (ms := 0) (rc := (3 * n)) (rs := (18 * n)) (As := [.int (G.2.2.2.2.2 (x4 + (1 : Int32)).toNatClampNeg), .int (G.2.2.2.2.2 (x4 + (2 : Int32)).toNatClampNeg)]) (rest := []) (ci := 9) dL_law_2542 lmL_283 okX9_compare rfl (by decide) rfl (Nat.le_of_ble_eq_true rfl) rfl hb6 (c_X9_compare h6) ?_
  refine hs_istore (lv' := [(6, .int r6.1), (5, .int r3.1), (0, .retAddr 0), (1, .ref x1), (2, .ref x2), (3, .ref x3), (4, .int x4)]) dL_law_2545 (by decide) rfl ?_
  refine hs_aload_n dL_law_2547 4 rfl ?_
  refine hs_weak (rc' := 0 + 3 * n) (rs' := 0 + 18 * n) (by omega) (by omega) ?_
  obtain ⟨r7, h7, h⟩ := hb_bind h
  obtain ⟨h7, nf7, hb7⟩ := hb_on_at h7
  refine hs_callVi (μ' := mX9_thrown) (mc := 0) (ms := 0) (rc := (3 * n)) (rs := (18 * n)) (As := []) (rest := []) (ci := 9) dL_law_2548 lmL_140 okX9_thrown rfl (by decide) rfl (Nat.le_of_ble_eq_true rfl) rfl hb7 (c_X9_thrown h7) ?_
  refine hs_iload dL_law_2551 1 rfl ?_
  refine hs_icmp_eq (tgt := 2558) dL_law_2553 (by decide) (fun hc8 => ?_) (fun hc8 => ?_)
  · rw [if_pos hc8] at h
    refine hs_iload dL_law_2558 1 rfl ?_
    refine hs_if_ne (tgt := 2575) dL_law_2560 (by decide) (fun hc9 => ?_) (fun hc9 => ?_)
    · rw [if_neg hc9] at h
      refine hs_sub (lv' := [(0, .retAddr 0), (1, .ref x1), (2, .ref x2), (3, .ref x3), (4, .int x4)]) [2, 3, 4, 5, 6] rfl ?_
      refine hs_weak (rc' := (3 * n)) (rs' := (18 * n)) (by omega) (by omega) ?_
      exact c_L_law_b2575 hl k23 hk23 h
    · rw [if_pos hc9] at h
      refine hs_aload_n dL_law_2563 5 rfl ?_
      refine hs_iconst (v := (0 : Int32)) dL_law_2564 (by decide) ?_
      obtain ⟨r10, h10, h⟩ := hb_bind h
      refine hs_lald dL_law_2565 h10 ?_
      refine hs_iload dL_law_2566 0 rfl ?_
      refine hs_i2l dL_law_2568 ?_
      refine hs_lcmp dL_law_2569 ?_
      refine hs_if_eq (tgt := 2575) dL_law_2570 (by decide) (fun hc11 => ?_) (fun hc11 => ?_)
      · rw [if_pos hc11] at h
        refine hs_sub (lv' := [(0, .retAddr 0), (1, .ref x1), (2, .ref x2), (3, .ref x3), (4, .int x4)]) [2, 3, 4, 5, 6] rfl ?_
        refine hs_weak (rc' := (3 * n)) (rs' := (18 * n)) (by omega) (by omega) ?_
        exact c_L_law_b2575 hl k23 hk23 h
      · rw [if_neg hc11] at h
        refine hs_iconst (v := (0 : Int32)) dL_law_2573 (by decide) ?_
        obtain rfl := Option.some.inj h
        exact hs_ireturn dL_law_2574 rfl (by decide) (fun h => by cases h)
  · rw [if_neg hc8] at h
    refine hs_iconst (v := (0 : Int32)) dL_law_2556 (by decide) ?_
    obtain rfl := Option.some.inj h
    exact hs_ireturn dL_law_2557 rfl (by decide) (fun h => by cases h)
set_option maxHeartbeats 4000000 in
set_option maxRecDepth 20000 in
theorem c_L_law_b2507 {G : hb_G} {l : Launch} (hl : l.stackTraces = false) {n : Nat}  (k23 : Nat → Nat → Nat → Int32 → hb_M → Option (Int32 × hb_M)) (hk23 : ∀ (x1 : Nat) (x2 : Nat) (x3 : Nat) (x4 : Int32) (σ : hb_M) (r : (Int32 × hb_M)), k23 x1 x2 x3 x4 σ = some r → hb_T G l true mL_law 83 (3 * n) (18 * n) 23 [(0, .retAddr 0), (1, .ref x1), (2, .ref x2), (3, .ref x3), (4, .int x4)] [] σ (.inl (some (.int r.1)), r.2))  {x1 : Nat} {x2 : Nat} {x3 : Nat} {x4 : Int32} {σ : hb_M} {r : (Int32 × hb_M)} (h : f_L_law_b2507 G.2.2.2.2.1 G.2.2.2.2.2 k23 x1 x2 x3 x4 σ = some r) : hb_T G l true mL_law 83 (3 * n) (18 * n) 2507 [(0, .retAddr 0), (1, .ref x1), (2, .ref x2), (3, .ref x3), (4, .int x4)] [] σ (.inl (some (.int r.1)), r.2) := by
  unfold f_L_law_b2507 at h
  refine hs_goto (tgt := 2704) dL_law_2507 (by decide) ?_
  refine hs_sub (lv' := [(0, .retAddr 0), (1, .ref x1), (2, .ref x2), (3, .ref x3), (4, .int x4)]) [0, 1, 2, 3, 4] rfl ?_
  refine hs_weak (rc' := (3 * n)) (rs' := (18 * n)) (by omega) (by omega) ?_
  exact c_L_law_b2704 hl k23 hk23 h
