/**
 * For each edge that a sentence under "Terms" names, and for the 512 calls, a run of its own; its
 * title quotes the words that it holds the class to.
 */
public final class TermsEdgesTest {
    private static final Runs RUNS = new Runs();

    public static void main(String[] args) {
        calls();
        octets();
        sizes();
        places();
        zonesRoundPlaces();
        newBlocks();
        keptOctets();
        goneBlocks();
        kinds();
        zones();
        leading();
        reaching();
        numbersInBlocks();
        RUNS.end();
    }

    private static void calls() {
        RUNS.check("'at most 512 calls': the 512th is answered as the first, after 255 blocks were kept",
            Runs.fullOfSmall() + Runs.each(16, 8144, 32, "back(@)=0") + "count(2)=255 count(4)=255");
        RUNS.check("'at most 512 calls': the 512th is answered as the first, after 255 blocks were gone",
            Runs.each(1, 255, 1, "get(513)=16 back(16)=513") + "count(4)=255 get(2048)=16");
        RUNS.check("'at most 512 calls': the 512th is answered as the first, after a full heap refused 255",
            Runs.fullOfSmall() + Runs.each(1, 255, 1, "get(0)=0") + "lost(16,8144)=253 lostAt(252)=8112");
    }

    private static void octets() {
        RUNS.check("'OCTETS 0..8191': the first and the last one, and those next to them", """
            kind(0)=0 kind(8191)=0 kind(-1)=IndexOutOfBounds kind(8192)=IndexOutOfBounds
            block(0)=-1 block(8191)=-1 block(-1)=IndexOutOfBounds block(8192)=IndexOutOfBounds
            """);
        for (int first = 16; first < 8176; first += 1024) {
            RUNS.check("'0 at first': " + first + " and behind",
                Runs.FULL_OF_LARGE + readsOfNought(first, Math.min(first + 1024, 8176)));
        }
        RUNS.check("'0 at first': the last four that can be read, and those between the blocks above", """
            get(1)=16 get(2048)=48 get(2048)=2112 get(2048)=4176 get(1936)=6240
            read(2064)=0 read(2068)=0 read(2072)=0 read(2076)=0 read(4128)=0 read(4132)=0 read(4136)=0 read(4140)=0
            read(6192)=0 read(6196)=0 read(6200)=0 read(6204)=0 read(8172)=0
            """);
    }

    /** Nobody may read the 16 between two blocks of the run. */
    private static String readsOfNought(int first, int behind) {
        StringBuilder run = new StringBuilder();
        for (int at = first; at < behind; at += 4) {
            boolean between = at >= 2064 && at < 2080 || at >= 4128 && at < 4144 || at >= 6192 && at < 6208;
            run.append("read(").append(at).append(between ? ")=IllegalState " : ")=0 ");
        }
        return run.toString();
    }

    private static void sizes() {
        RUNS.check("'(0 to 2048)': the smallest", "get(0)=16 count(0)=1 count(1)=0 back(16)=0");
        RUNS.check("'(0 to 2048)': the largest", """
            get(2048)=16 count(0)=1 count(1)=2048 kind(2063)=1 kind(2064)=3 back(16)=2048
            """);
        RUNS.check("'up to a multiple of 16': one less, just so many, one more", """
            get(15)=16 get(16)=48 get(17)=80 get(31)=128 get(32)=176 get(33)=224 get(2032)=288 get(2033)=2336
            get(1)=4400
            """);
        RUNS.check("'up to a multiple of 16': the largest", "get(2047)=16 get(2048)=2080 get(1)=4144");
        RUNS.check("'(16 at least)'", "get(0)=16 get(0)=48 get(1)=80 get(0)=112 get(1)=144 get(0)=176");
    }

    private static void places() {
        RUNS.check("'at the least address': the first hole, in whatever order they came to be", """
            get(600)=16 get(1)=640 get(600)=672 get(1)=1296 get(600)=1328 get(1)=1952
            back(672)=600 back(1328)=600 back(16)=600
            get(600)=16 get(600)=672 get(600)=1328 get(600)=1984
            """);
        RUNS.check("'at the least address': the first hole that is large enough", """
            get(600)=16 get(1)=640 get(800)=672 get(1)=1488 back(16)=600 back(672)=800
            get(700)=672 get(1)=16
            """);
        RUNS.check("'at the least address': in a hole as near to its begin as may be", """
            get(1)=16 get(900)=48 get(1)=976 back(48)=900 get(5)=48 get(5)=80 get(1)=112
            """);
        RUNS.check("'a multiple of 16'", "get(1)=16 get(2)=48 get(18)=80 get(3)=128 get(35)=160 get(1)=224");
    }

    private static void zonesRoundPlaces() {
        RUNS.check("'16 more before': none stands at 0, though a larger one could", """
            get(600)=16 get(1)=640 back(16)=600 get(609)=672 get(608)=16 kind(0)=3 kind(15)=3 block(15)=-1
            block(16)=16
            """);
        RUNS.check("'16 more before': behind another block", """
            get(16)=16 get(16)=48 kind(31)=1 kind(32)=3 kind(47)=3 kind(48)=1
            """);
        RUNS.check("'16 behind': before another block", """
            get(1)=16 get(600)=48 get(1)=672 back(48)=600 get(609)=704 get(608)=48 kind(655)=1 kind(656)=3 kind(671)=3
            """);
        RUNS.check("'lie in 0..8191': a large block up to the last 16", """
            get(2048)=16 get(2048)=2080 get(2048)=4144 get(1969)=0 get(1968)=6208 kind(8175)=1 kind(8176)=3
            kind(8191)=3
            """);
        RUNS.check("'lie in 0..8191': a small block up to the last 16", """
            get(2048)=16 get(2048)=2080 get(2048)=4144 get(1936)=6208 get(17)=0 get(16)=8160
            kind(8159)=3 kind(8160)=1 kind(8175)=1 kind(8176)=3 kind(8191)=3
            """);
        RUNS.check("'lie in 0..8191': 16 too few for the smallest", """
            get(2048)=16 get(2048)=2080 get(2048)=4144 get(1937)=6208 get(0)=0 kind(8176)=0 kind(8191)=0
            """);
        RUNS.check("'none of all of them is one that another BLOCK takes': a ZONE may be that of two", """
            get(16)=16 get(600)=48 get(16)=672 back(48)=600 get(608)=48 kind(47)=3 kind(656)=3
            """);
        RUNS.check("'none of all of them is one that another BLOCK takes': a KEPT one takes them, too", """
            get(512)=16 back(16)=512 get(1)=544 get(0)=576 back(576)=0 get(0)=608
            """);
        RUNS.check("'none of all of them is one that another BLOCK takes': one that is gone takes none", """
            get(512)=16 get(1)=544 back(16)=512 back(544)=1 get(513)=576 get(512)=16
            """);
    }

    private static void newBlocks() {
        RUNS.check("'It is LIVE'",
            "get(1)=16 kind(16)=1 block(16)=16 count(0)=1 again(16,2)=48 kind(48)=1 count(0)=1");
        RUNS.check("'its n octets stay as they are': where another block was", """
            get(513)=16 write(16,16909060)=done write(524,-1)=done write(525,-2)=done back(16)=513
            get(2048)=16 read(16)=16909060 read(520)=0 read(524)=-257 read(525)=-2 read(529)=0
            """);
        RUNS.check("'its n octets stay as they are': between the blocks that were there", """
            get(600)=16 write(32,77)=done back(16)=600 get(16)=16 get(16)=48 back(16)=16 back(48)=16 get(500)=80
            back(80)=500 get(40)=16 read(32)=77
            """);
    }

    private static void keptOctets() {
        RUNS.check("'Given back it is KEPT, the latest one'", """
            get(300)=16 get(200)=336 get(100)=560 back(336)=200 back(560)=100 back(16)=300
            back(336)=IllegalArgument back(560)=IllegalState back(16)=IllegalState count(3)=400
            """);
        RUNS.check("'more than 512 octets': 512 in one are not", """
            get(512)=16 back(16)=512 kind(16)=2 kind(527)=2 count(2)=1 count(3)=512
            """);
        RUNS.check("'more than 512 octets': 512 in several are not, one more is", """
            get(200)=16 get(311)=240 get(1)=576 get(1)=608 back(16)=200 back(240)=311 back(576)=1 count(2)=3
            count(3)=512 kind(16)=2 back(608)=1 count(2)=3 count(3)=313 kind(16)=0 kind(240)=2 kind(576)=2
            kind(608)=2
            """);
        RUNS.check("'(n each)': not what they take",
            Runs.each(16, 1040, 32, "get(1)=@") + Runs.each(16, 1040, 32, "back(@)=1")
                + "count(2)=33 count(3)=33 kind(16)=2");
        RUNS.check("'(n each)': those of 0 have none", """
            get(512)=16 get(0)=544 get(0)=576 back(544)=0 back(16)=512 back(576)=0 count(2)=3 count(3)=512
            back(544)=IllegalState back(16)=IllegalState back(576)=IllegalState
            """);
        RUNS.check("'as long as': as many go as must", """
            get(100)=16 get(100)=144 get(100)=272 get(100)=400 get(100)=528 get(400)=656
            back(16)=100 back(144)=100 back(272)=100 back(400)=100 back(528)=100 count(2)=5 count(3)=500
            back(656)=400 count(2)=2 count(3)=500 kind(400)=0 kind(528)=2 kind(656)=2
            """);
        RUNS.check("'as long as': no more go than must, one of 0 next to go stays", """
            get(1)=16 get(0)=48 get(511)=80 get(1)=608 back(16)=1 back(48)=0 back(80)=511 count(2)=3 back(608)=1
            count(2)=3 count(3)=512 back(16)=IllegalArgument back(48)=IllegalState
            """);
        RUNS.check("'as long as': one of 0 goes first if it is the oldest, and is not enough", """
            get(0)=16 get(512)=48 get(1)=576 back(16)=0 back(48)=512 count(2)=2 back(576)=1 count(2)=1 count(3)=1
            back(16)=IllegalArgument back(48)=IllegalArgument back(576)=IllegalState
            """);
    }

    private static void goneBlocks() {
        RUNS.check("'the oldest one is gone': not the lowest, nor the one made first", """
            get(200)=16 get(200)=240 get(200)=464 back(464)=200 back(16)=200 back(240)=200
            kind(464)=0 kind(16)=2 kind(240)=2 back(464)=IllegalArgument
            """);
        RUNS.check("'the oldest one is gone': not the highest, nor the one made last", """
            get(200)=16 get(200)=240 get(200)=464 back(16)=200 back(464)=200 back(240)=200
            kind(464)=2 kind(16)=0 kind(240)=2 back(16)=IllegalArgument
            """);
        RUNS.check("'the oldest one is gone': not the largest, nor the smallest", """
            get(150)=16 get(250)=192 get(50)=464 get(100)=544 back(16)=150 back(192)=250 back(464)=50 back(544)=100
            kind(16)=0 kind(192)=2 kind(464)=2 kind(544)=2 count(3)=400
            """);
        RUNS.check("'(one of more than 512 itself, too)': 513", """
            get(513)=16 back(16)=513 kind(16)=0 count(2)=0 count(3)=0 back(16)=IllegalArgument get(1)=16
            """);
        RUNS.check("'(one of more than 512 itself, too)': 2048, with all that are older", """
            get(0)=16 get(512)=48 get(2048)=576 back(16)=0 back(48)=512 count(2)=2 back(576)=2048 count(2)=0
            count(3)=0 kind(16)=0 kind(48)=0 kind(576)=0 back(16)=IllegalArgument back(48)=IllegalArgument
            back(576)=IllegalArgument
            """);
    }

    private static void kinds() {
        RUNS.check("'one of the n of a LIVE BLOCK': of 1", "get(1)=16 kind(15)=3 kind(16)=1 kind(17)=3");
        RUNS.check("'one of the n of a LIVE BLOCK': of 16", "get(16)=16 kind(15)=3 kind(16)=1 kind(31)=1 kind(32)=3");
        RUNS.check("'one of the n of a LIVE BLOCK': of 2047", "get(2047)=16 kind(16)=1 kind(2062)=1 kind(2063)=3");
        RUNS.check("'one of the n of a LIVE BLOCK': of 0 none", "get(0)=16 kind(15)=3 kind(16)=3 kind(17)=3");
        RUNS.check("'KEPT (likewise)': of 1", "get(1)=16 back(16)=1 kind(15)=3 kind(16)=2 kind(17)=3");
        RUNS.check("'KEPT (likewise)': of 16", "get(16)=16 back(16)=16 kind(15)=3 kind(16)=2 kind(31)=2 kind(32)=3");
        RUNS.check("'KEPT (likewise)': of 511", "get(511)=16 back(16)=511 kind(16)=2 kind(526)=2 kind(527)=3");
        RUNS.check("'KEPT (likewise)': of 0 none", "get(0)=16 back(16)=0 kind(15)=3 kind(16)=3 kind(17)=3");
        RUNS.check("'else FREE': all of a new object",
            Runs.each(0, 8191, 17, "kind(@)=0") + "kind(8191)=0");
        RUNS.check("'else FREE': what one that is gone took, and its ZONE", """
            get(2048)=16 back(16)=2048 kind(0)=0 kind(15)=0 kind(16)=0 kind(2063)=0 kind(2064)=0 kind(2079)=0
            """);
    }

    private static void zones() {
        RUNS.check("'taken by a BLOCK': by a LIVE one, behind its n", """
            get(17)=16 kind(32)=1 kind(33)=3 kind(47)=3 get(15)=64 kind(78)=1 kind(79)=3
            """);
        RUNS.check("'taken by a BLOCK': by a KEPT one, behind its n", """
            get(17)=16 back(16)=17 kind(32)=2 kind(33)=3 kind(47)=3 get(15)=64 back(64)=15 kind(78)=2 kind(79)=3
            """);
        RUNS.check("'taken by a BLOCK': by one of 0", """
            get(0)=16 kind(16)=3 kind(31)=3 kind(32)=3 kind(47)=3 kind(48)=0
            """);
        RUNS.check("'one of the 16 before': a LIVE one", """
            get(600)=16 get(1)=640 back(16)=600 kind(623)=0 kind(624)=3 kind(639)=3 kind(640)=1
            """);
        RUNS.check("'one of the 16 before': a KEPT one", """
            get(600)=16 get(1)=640 back(16)=600 back(640)=1 kind(623)=0 kind(624)=3 kind(639)=3 kind(640)=2
            """);
        RUNS.check("'one of the 16 before': the first octets of all", "get(0)=16 kind(0)=3 kind(15)=3");
        RUNS.check("'or behind one': 16 behind all that a LIVE one takes", """
            get(1)=16 kind(32)=3 kind(47)=3 kind(48)=0 again(16,33)=48 kind(80)=1 kind(96)=3 kind(111)=3 kind(112)=0
            """);
        RUNS.check("'or behind one': 16 behind all that a KEPT one takes", """
            get(33)=16 back(16)=33 kind(48)=2 kind(49)=3 kind(64)=3 kind(79)=3 kind(80)=0
            """);
        RUNS.check("'or behind one': the last octets of all", Runs.FULL_OF_LARGE + "kind(8176)=3 kind(8191)=3");
        RUNS.check("'or one of the 16 before or behind one': that of two stays until both are gone", """
            get(600)=16 get(600)=640 kind(624)=3 kind(639)=3 back(16)=600 kind(623)=0 kind(624)=3 kind(639)=3
            back(640)=600 kind(624)=0 kind(639)=0
            """);
    }

    private static void leading() {
        RUNS.check("'LEADS to a LIVE BLOCK': not to a KEPT one, nor on from there", """
            get(4)=16 get(4)=48 get(4)=80 write(16,48)=done write(48,80)=done lost(16,0)=0 back(48)=4
            lost(16,0)=1 lostAt(0)=80 lost(48,51)=2
            """);
        RUNS.check("'LEADS to a LIVE BLOCK': not to one that is gone, nor on from there", """
            get(600)=16 get(4)=640 get(4)=672 write(640,16)=done write(16,672)=done lost(640,0)=0 back(16)=600
            lost(640,0)=1 lostAt(0)=672 lost(16,615)=2
            """);
        RUNS.check("'one of its n octets': the first, the last, and those next to them", """
            get(20)=16 lost(15,15)=1 lost(16,0)=0 lost(17,0)=0 lost(35,0)=0 lost(36,36)=1 lost(47,48)=1
            """);
        RUNS.check("'one of its n octets': for a number in a block, too", """
            get(4)=16 get(20)=48 write(16,47)=done lost(16,0)=1 write(16,48)=done lost(16,0)=0
            write(16,67)=done lost(16,0)=0 write(16,68)=done lost(16,0)=1
            """);
        RUNS.check("'or where it stands': one of 0, and no other octet that it takes", """
            get(0)=16 lost(16,0)=0 lost(15,17)=1 lost(31,32)=1
            """);
        RUNS.check("'or where it stands': one of 0, for a number in a block, too", """
            get(4)=16 get(0)=48 write(16,48)=done lost(16,0)=0 write(16,49)=done lost(16,0)=1
            """);
        RUNS.check("'or where it stands': not a KEPT one of 0",
            "get(0)=16 get(0)=48 back(48)=0 lost(48,0)=1 lost(16,48)=0");
    }

    private static void reaching() {
        RUNS.check("'the BLOCK to which it LEADS': none", """
            get(4)=16 lost(0,8191)=1 lost(-1,8192)=1 lost(-2147483648,2147483647)=1 lost(-16,65552)=1
            """);
        RUNS.check("'the BLOCK to which it LEADS': even if it holds no number", "get(3)=16 get(0)=48 lost(16,48)=0");
        RUNS.check("'those to which the numbers LEAD that lie in a REACHED one': downwards, through all there can be",
            "get(4)=16 " + Runs.each(48, 8144, 32, "get(4)=@ write(@,@-32)=done")
                + "lost(8144,0)=0 lost(16,0)=254 lostAt(253)=8144");
        RUNS.check("'those to which the numbers LEAD that lie in a REACHED one': upwards, through all there can be",
            Runs.each(16, 8112, 32, "get(4)=@ write(@,@+32)=done")
                + "get(4)=8144 lost(16,0)=0 lost(8144,0)=254 lostAt(253)=8112");
        RUNS.check("'those to which the numbers LEAD that lie in a REACHED one': in circles", """
            get(8)=16 get(8)=48 get(8)=80 write(16,48)=done write(48,80)=done write(80,16)=done write(84,80)=done
            lost(16,0)=0 lost(48,0)=0 lost(80,80)=0 lost(0,0)=3
            """);
        RUNS.check("'those to which the numbers LEAD that lie in a REACHED one': in ways that double 60 times",
            Runs.each(16, 1904, 32, "get(8)=@ write(@,@)=done write(@+4,@+32)=done") + "lost(16,0)=0 lost(48,0)=1");
        RUNS.check("'those to which the numbers LEAD that lie in a REACHED one': not in one that is not", """
            get(4)=16 get(4)=48 get(4)=80 write(48,80)=done lost(16,0)=2 lost(16,80)=1 lost(16,48)=0
            """);
    }

    private static void numbersInBlocks() {
        RUNS.check("'four octets, the lowest first'", """
            get(8)=16 get(4)=48 write(17,805306368)=done read(20)=48 lost(16,0)=0 write(20,805306368)=done
            lost(16,0)=1 write(20,12288)=done lost(16,0)=1 write(20,3145728)=done lost(16,0)=1
            """);
        RUNS.check("'four octets, the lowest first': each of the four counts", """
            get(4)=16 get(2048)=48 write(16,304)=done lost(16,0)=0 write(16,2096)=done lost(16,0)=1
            write(16,65840)=done lost(16,0)=1 write(16,16777520)=done lost(16,0)=1 write(16,-304)=done lost(16,0)=1
            write(16,-2147483344)=done lost(16,0)=1
            """);
        RUNS.check("'at multiples of 4': nowhere else", """
            get(12)=16 get(4)=48 write(17,48)=done lost(16,0)=1 write(18,48)=done lost(16,0)=1
            write(19,48)=done lost(16,0)=1 write(20,48)=done lost(16,0)=0
            """);
        RUNS.check("'at multiples of 4': the first and the last of the largest block", """
            get(2048)=16 get(4)=2080 lost(16,0)=1 write(16,2080)=done lost(16,0)=0 write(16,0)=done
            write(2060,2080)=done lost(16,0)=0 write(2060,0)=done lost(16,0)=1
            """);
        for (int n = 0; n <= 3; n++) {
            RUNS.check("'all four its own': of " + n + " none",
                fourOctetsFrom16LeadTo560() + "get(" + n + ")=16 lost(16,0)=1");
        }
        RUNS.check("'all four its own': of 4 one", fourOctetsFrom16LeadTo560() + "get(4)=16 lost(16,0)=0");
        RUNS.check("'all four its own': of 5 no more", "get(5)=16 get(4)=48 write(17,805306368)=done lost(16,0)=1");
        RUNS.check("'all four its own': of 6 no more", "get(6)=16 get(4)=48 write(18,3145728)=done lost(16,0)=1");
        RUNS.check("'all four its own': of 7 no more", "get(7)=16 get(4)=48 write(19,12288)=done lost(16,0)=1");
        RUNS.check("'all four its own': of 8 two", "get(8)=16 get(4)=48 write(20,48)=done lost(16,0)=0");
        RUNS.check("'all four its own': not those that it takes behind its n", """
            get(513)=16 get(4)=560 write(524,560)=done back(16)=513 get(508)=16 lost(16,0)=1
            """);
        RUNS.check("'all four its own': the last four that it takes, if they are", """
            get(513)=16 get(4)=560 write(524,560)=done back(16)=513 get(512)=16 lost(16,0)=0
            """);
    }

    /** What stands there is gone, its octets stay. */
    private static String fourOctetsFrom16LeadTo560() {
        return "get(513)=16 get(4)=560 write(16,560)=done back(16)=513 ";
    }
}
