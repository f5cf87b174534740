/** For each promise of the document: ordinary inputs, the edges it names, and wrong inputs. */
public final class PromisesTest {
    private static final Runs RUNS = new Runs();

    public static void main(String[] args) {
        promise1();
        promise2();
        promise3();
        promise4();
        promise5();
        promise6();
        promise7();
        promise8();
        promise9();
        promise10();
        promise11();
        RUNS.end();
    }

    private static void promise1() {
        RUNS.check("1 no blocks", """
            count(0)=0 count(1)=0 count(2)=0 count(3)=0 count(4)=0
            kind(0)=0 kind(16)=0 kind(8191)=0 block(0)=-1 block(16)=-1 block(8191)=-1
            back(0)=IllegalArgument back(16)=IllegalArgument again(16,1)=IllegalArgument
            read(16)=IllegalState write(16,1)=IllegalState
            lostAt(0)=IndexOutOfBounds lost(0,16)=0 lostAt(0)=IndexOutOfBounds
            """);
        RUNS.check("1 octets are 0 at first", "get(2048)=16 read(16)=0 read(1000)=0 read(2060)=0");
        twoObjectsShareNothing();
    }

    private static void twoObjectsShareNothing() {
        ZoneHeap one = new ZoneHeap();
        ZoneHeap other = new ZoneHeap();
        Runs.answer(one, "get(8)");
        Runs.answer(one, "write(16,7)");
        Runs.answer(one, "lost(0,0)");
        String title = "1 two objects";
        RUNS.due(title, "count(4)", Runs.answer(other, "count(4)"), "0");
        RUNS.due(title, "lostAt(0)", Runs.answer(other, "lostAt(0)"), "IndexOutOfBounds");
        RUNS.due(title, "get(8)", Runs.answer(other, "get(8)"), "16");
        RUNS.due(title, "read(16)", Runs.answer(other, "read(16)"), "0");
        RUNS.due(title, "read(16)", Runs.answer(one, "read(16)"), "7");
    }

    private static void promise2() {
        RUNS.check("2 up to a multiple of 16, 16 at least, zones are shared", """
            get(0)=16 get(1)=48 get(15)=80 get(16)=112 get(17)=144 get(32)=192 get(33)=240 get(1)=304
            """);
        RUNS.check("2 wrong n", """
            get(-1)=IllegalArgument get(2049)=IllegalArgument
            get(-2147483648)=IllegalArgument get(2147483647)=IllegalArgument
            count(0)=0 count(4)=0 get(2048)=16 count(4)=1
            """);
        RUNS.check("2 the last octets that a block can take, with its zone behind", """
            get(2048)=16 get(2048)=2080 get(2048)=4144 get(2048)=0 get(1969)=0 count(4)=3
            get(1968)=6208 kind(8175)=1 kind(8176)=3 kind(8191)=3 get(0)=0 count(0)=4 count(4)=4
            """);
        RUNS.check("2 one zone less", """
            get(2048)=16 get(2048)=2080 get(2048)=4144 get(1920)=6208 kind(8144)=0 get(1)=8144
            kind(8144)=1 kind(8145)=3 kind(8160)=3 kind(8175)=3 kind(8176)=0 get(1)=0
            """);
        RUNS.check("2 the least address of several holes, just large enough", """
            get(600)=16 get(16)=640 get(700)=672 get(16)=1392 back(672)=700 back(16)=600
            get(609)=672 back(672)=609 get(608)=16 get(1)=672
            """);
        RUNS.check("2 what was not cleared stays", """
            get(16)=16 write(16,16909060)=done write(28,-1)=done back(16)=16
            get(513)=48 back(48)=513 get(16)=16 read(16)=16909060 read(28)=-1
            """);
        RUNS.check("2 a KEPT block still takes its octets, one that is gone does not", """
            get(500)=16 get(1)=544 back(16)=500 get(16)=576 back(576)=16 get(16)=16
            """);
        RUNS.check("2 as many blocks as there can be", fullHeap() + "get(0)=0 count(0)=255 lost(0,0)=255 lostAt(254)=8144");
    }

    private static String fullHeap() {
        StringBuilder run = new StringBuilder();
        for (int start = 16; start <= 8144; start += 32) {
            run.append("get(0)=").append(start).append(' ');
        }
        return run.toString();
    }

    private static void promise3() {
        RUNS.check("3 its n; KEPT; none", """
            get(20)=16 get(0)=64 back(16)=20 back(16)=IllegalState back(64)=0 back(64)=IllegalState
            back(0)=IllegalArgument back(17)=IllegalArgument back(32)=IllegalArgument back(96)=IllegalArgument
            back(-1)=IllegalArgument back(-16)=IllegalArgument back(8192)=IllegalArgument
            back(-2147483648)=IllegalArgument back(2147483647)=IllegalArgument
            """);
        RUNS.check("3 inside a LIVE block is not where it stands", """
            get(64)=16 back(32)=IllegalArgument back(17)=IllegalArgument count(0)=1 back(16)=64
            """);
        RUNS.check("3 512 octets are KEPT, 513 are not", """
            get(512)=16 get(0)=544 get(1)=576 back(16)=512 count(2)=1 count(3)=512 kind(16)=2
            back(544)=0 count(2)=2 back(16)=IllegalState back(576)=1 count(2)=2 count(3)=1
            kind(16)=0 kind(527)=0 kind(528)=3 back(16)=IllegalArgument
            back(544)=IllegalState back(576)=IllegalState
            """);
        RUNS.check("3 one of more than 512 goes itself, and all older ones before it", """
            get(0)=16 get(5)=48 get(513)=80 back(16)=0 back(48)=5 count(2)=2 back(80)=513
            count(2)=0 count(3)=0 back(16)=IllegalArgument back(48)=IllegalArgument back(80)=IllegalArgument
            kind(16)=0 kind(48)=0 kind(80)=0 count(0)=0
            """);
        RUNS.check("3 the oldest is the one given back first", """
            get(200)=16 get(200)=240 get(200)=464 back(240)=200 back(16)=200 back(464)=200
            count(2)=2 count(3)=400 kind(240)=0 kind(16)=2 kind(464)=2
            back(240)=IllegalArgument back(16)=IllegalState back(464)=IllegalState
            """);
        RUNS.check("3 no more than need be goes", """
            get(100)=16 get(0)=144 get(0)=176 get(412)=208 get(1)=640 back(16)=100 back(144)=0 back(176)=0
            back(208)=412 count(2)=4 count(3)=512 back(640)=1 count(2)=4 count(3)=413
            back(16)=IllegalArgument back(144)=IllegalState
            """);
        RUNS.check("3 a new block where a KEPT one stood can be given back again", """
            get(513)=16 back(16)=513 back(16)=IllegalArgument get(9)=16 back(16)=9 back(16)=IllegalState
            """);
        RUNS.check("3 as many KEPT as there can be", fullHeap() + keepAll() + "count(2)=255 get(0)=0");
    }

    private static String keepAll() {
        StringBuilder run = new StringBuilder();
        for (int start = 16; start <= 8144; start += 32) {
            run.append("back(").append(start).append(")=0 ");
        }
        return run.toString();
    }

    private static void promise4() {
        RUNS.check("4 larger: all octets of the old one come there", """
            get(8)=16 write(16,11)=done write(20,-12)=done again(16,40)=48 read(48)=11 read(52)=-12 read(56)=0
            kind(16)=2 kind(48)=1 count(0)=1 count(1)=40 count(2)=1 count(3)=8 count(4)=2
            """);
        RUNS.check("4 smaller: as many as the new one has", """
            get(8)=16 write(16,11)=done write(20,-1)=done again(16,6)=48 read(48)=11 read(50)=-65536
            read(51)=IllegalState count(1)=6 again(48,8)=80 read(84)=65535
            """);
        RUNS.check("4 what lies behind the old one's octets does not come along", """
            get(16)=16 write(16,-1)=done write(20,-1)=done back(16)=16 get(513)=48 back(48)=513
            get(5)=16 again(16,8)=48 read(48)=-1 read(52)=255
            """);
        RUNS.check("4 what the new one has more stays as it was", """
            get(4)=16 get(513)=48 write(52,77)=done back(48)=513 again(16,8)=48 read(48)=0 read(52)=77
            """);
        RUNS.check("4 to none and from none", """
            get(4)=16 write(16,9)=done again(16,0)=48 kind(48)=3 again(48,4)=80 read(80)=0 count(4)=3
            """);
        RUNS.check("4 the same n moves, too", "get(4)=16 write(16,9)=done again(16,4)=48 read(48)=9 kind(16)=2");
        RUNS.check("4 wrong at", """
            get(4)=16 again(17,4)=IllegalArgument again(0,4)=IllegalArgument again(-16,4)=IllegalArgument
            again(8192,4)=IllegalArgument again(2147483647,4)=IllegalArgument again(-2147483648,4)=IllegalArgument
            back(16)=4 again(16,4)=IllegalState count(4)=1
            """);
        RUNS.check("4 wrong n is looked at first", """
            get(4)=16 again(16,-1)=IllegalArgument again(16,2049)=IllegalArgument count(4)=1 kind(16)=1
            back(16)=4 again(16,-1)=IllegalArgument again(16,2049)=IllegalArgument again(16,2048)=IllegalState
            again(5,-1)=IllegalArgument
            """);
        RUNS.check("4 no room: all stays", """
            get(2048)=16 get(2048)=2080 get(2048)=4144 write(16,5)=done get(10)=6208 back(6208)=10
            again(16,2048)=0 again(16,1937)=0 count(0)=3 count(1)=6144 count(2)=1 count(3)=10 count(4)=4
            kind(16)=1 kind(6208)=2 read(16)=5 again(16,1936)=6240 read(6240)=5 count(2)=0
            """);
        RUNS.check("4 no room, though the old one alone would have been enough", """
            get(2048)=16 get(2048)=2080 get(2048)=4144 get(1968)=6208 again(6208,1)=0 again(16,0)=0 kind(6208)=1
            """);
        RUNS.check("4 the old one is given back after the new one is made", """
            get(500)=16 get(20)=544 back(16)=500 again(544,20)=592 kind(16)=0 count(2)=1 count(3)=20
            get(513)=640 again(640,8)=16 back(640)=IllegalArgument count(2)=0
            """);
        RUNS.check("4 the old one is the latest KEPT", """
            get(300)=16 get(200)=336 get(100)=560 back(336)=200 again(16,0)=688 back(560)=100
            back(336)=IllegalArgument back(16)=IllegalState back(560)=IllegalState count(3)=400
            """);
    }

    private static void promise5() {
        RUNS.check("5 round a LIVE block", """
            get(20)=16 kind(0)=3 kind(15)=3 kind(16)=1 kind(35)=1 kind(36)=3 kind(47)=3 kind(48)=3 kind(63)=3
            kind(64)=0 kind(8191)=0
            """);
        RUNS.check("5 round a KEPT block", """
            get(20)=16 back(16)=20 kind(0)=3 kind(15)=3 kind(16)=2 kind(35)=2 kind(36)=3 kind(47)=3 kind(48)=3
            kind(63)=3 kind(64)=0
            """);
        RUNS.check("5 a block of no octets is all ZONE", """
            get(0)=16 kind(0)=3 kind(16)=3 kind(31)=3 kind(47)=3 kind(48)=0 back(16)=0 kind(16)=3 kind(47)=3 kind(48)=0
            """);
        RUNS.check("5 what is gone leaves no zone of its own", """
            get(600)=16 get(600)=640 get(16)=1264 back(640)=600 kind(623)=3 kind(624)=3 kind(639)=3 kind(640)=0
            kind(1247)=0 kind(1248)=3 kind(1263)=3 kind(1264)=1 back(16)=600 kind(0)=0 kind(624)=0
            """);
        RUNS.check("5 there is no such octet", """
            kind(-1)=IndexOutOfBounds kind(8192)=IndexOutOfBounds kind(-16)=IndexOutOfBounds
            kind(-2147483648)=IndexOutOfBounds kind(2147483647)=IndexOutOfBounds kind(0)=0 kind(8191)=0
            """);
    }

    private static void promise6() {
        RUNS.check("6 of the octets of a LIVE block, and of no others", """
            get(20)=16 get(40)=64 block(15)=-1 block(16)=16 block(17)=16 block(35)=16 block(36)=-1 block(47)=-1
            block(63)=-1 block(64)=64 block(80)=64 block(103)=64 block(104)=-1 block(500)=-1
            back(16)=20 block(16)=-1 block(64)=64
            """);
        RUNS.check("6 a block of no octets has none", "get(0)=16 block(16)=-1");
        RUNS.check("6 there is no such octet", """
            block(-1)=IndexOutOfBounds block(8192)=IndexOutOfBounds block(-2147483648)=IndexOutOfBounds
            block(2147483647)=IndexOutOfBounds block(0)=-1 block(8191)=-1
            """);
    }

    private static void promise7() {
        RUNS.check("7 the lowest first", """
            get(12)=16 write(16,67305985)=done write(20,134678021)=done read(16)=67305985 read(17)=84148994
            read(19)=117835012 write(18,-1)=done read(16)=-65023 read(20)=134742015
            """);
        RUNS.check("7 all values", """
            get(4)=16 write(16,-2147483648)=done read(16)=-2147483648 write(16,2147483647)=done read(16)=2147483647
            write(16,128)=done read(16)=128 write(16,-128)=done read(16)=-128
            """);
        RUNS.check("7 there are none", """
            write(-1,1)=IndexOutOfBounds write(-4,1)=IndexOutOfBounds write(8189,1)=IndexOutOfBounds
            write(8192,1)=IndexOutOfBounds write(8188,1)=IllegalState write(0,1)=IllegalState
            write(-2147483648,1)=IndexOutOfBounds write(2147483647,1)=IndexOutOfBounds
            write(2147483644,1)=IndexOutOfBounds
            """);
        RUNS.check("7 not all LIVE: nothing is written", """
            get(20)=16 write(32,7)=done write(33,-1)=IllegalState write(35,-1)=IllegalState write(36,-1)=IllegalState
            write(15,-1)=IllegalState write(13,-1)=IllegalState read(16)=0 read(32)=7
            """);
        RUNS.check("7 fewer than four", "get(3)=16 write(16,1)=IllegalState get(0)=48 write(48,1)=IllegalState");
        RUNS.check("7 KEPT is not LIVE", """
            get(8)=16 write(16,3)=done again(16,8)=48 write(16,4)=IllegalState get(600)=80 back(80)=600
            get(8)=16 read(16)=3
            """);
    }

    private static void promise8() {
        RUNS.check("8 what they are", """
            get(9)=16 write(16,1)=done write(20,2)=done write(21,-2147483648)=done read(20)=2 read(21)=-2147483648
            read(18)=131072
            """);
        RUNS.check("8 there are none", """
            read(-1)=IndexOutOfBounds read(-4)=IndexOutOfBounds read(8189)=IndexOutOfBounds read(8192)=IndexOutOfBounds
            read(8188)=IllegalState read(0)=IllegalState read(-2147483648)=IndexOutOfBounds
            read(2147483647)=IndexOutOfBounds read(2147483644)=IndexOutOfBounds
            """);
        RUNS.check("8 not all LIVE", """
            get(20)=16 read(32)=0 read(33)=IllegalState read(36)=IllegalState read(15)=IllegalState read(13)=IllegalState
            get(3)=64 read(64)=IllegalState get(0)=96 read(96)=IllegalState back(16)=20 read(16)=IllegalState
            """);
    }

    private static void promise9() {
        RUNS.check("9 a number LEADS if it is one of the n octets", """
            get(20)=16 lost(16,0)=0 lost(35,0)=0 lost(36,0)=1 lost(47,0)=1 lost(15,0)=1 lost(48,0)=1
            lost(0,16)=0 lost(0,35)=0 lost(-1,8192)=1 lost(-2147483648,2147483647)=1 lost(16,16)=0
            """);
        RUNS.check("9 or where it stands", "get(0)=16 lost(16,0)=0 lost(17,0)=1 lost(15,31)=1");
        RUNS.check("9 from one block to the next, in any order of addresses, in circles", """
            get(8)=16 get(8)=48 get(8)=80 get(8)=112 write(48,112)=done write(112,20)=done write(16,48)=done
            lost(48,0)=1 lostAt(0)=80 lost(112,0)=1 lost(16,80)=0 lost(80,0)=3 write(84,87)=done lost(84,0)=3
            write(84,55)=done lost(0,80)=0
            """);
        RUNS.check("9 from both", "get(8)=16 get(8)=48 get(8)=80 lost(16,80)=1 lostAt(0)=48 lost(48,48)=2");
        RUNS.check("9 every number of four octets, the last one, too", """
            get(2048)=16 get(4)=2080 write(2060,2083)=done lost(16,0)=0 write(2060,2084)=done lost(16,0)=1
            write(1000,2080)=done lost(2063,0)=0
            """);
        RUNS.check("9 at multiples of 4 alone", """
            get(12)=16 get(4)=48 write(17,48)=done lost(16,0)=1 write(18,48)=done lost(16,0)=1
            write(19,48)=done lost(16,0)=1 write(20,48)=done lost(16,0)=0
            """);
        RUNS.check("9 all four its own", """
            get(6)=16 get(4)=48 write(18,3145728)=done lost(16,0)=1 again(16,8)=80 lost(80,0)=0
            again(80,7)=112 lost(112,0)=1
            """);
        RUNS.check("9 a higher octet of a number counts", """
            get(4)=16 get(4)=48 write(16,16777264)=done lost(16,0)=1 write(16,-48)=done lost(16,0)=1
            write(16,48)=done lost(16,0)=0
            """);
        RUNS.check("9 a number in a LIVE block leads to one of no octets", "get(4)=16 get(0)=48 write(16,48)=done lost(16,0)=0");
        RUNS.check("9 KEPT blocks are neither reached nor lost, nor do they lead on", """
            get(4)=16 get(4)=48 get(4)=80 write(16,48)=done write(48,80)=done lost(16,0)=0 back(48)=4
            lost(16,0)=1 lostAt(0)=80 lost(48,0)=2 lost(0,0)=2
            """);
        RUNS.check("9 nor those that are gone; what is read there later leads on if all four octets are a block's", """
            get(600)=16 get(4)=640 get(4)=672 write(640,16)=done write(16,672)=done lost(640,0)=0 back(16)=600
            lost(640,0)=1 lostAt(0)=672 get(3)=16 lost(640,0)=1 again(16,4)=48 lost(48,640)=0
            """);
        RUNS.check("9 a long chain", longChain());
        RUNS.check("9 a block that is reached in very many ways", chainOfBlocksThatLeadToThemselves());
    }

    /** Every block leads to the one made before it, so that the whole chain is followed downwards. */
    private static String longChain() {
        int blocks = 250;
        StringBuilder run = new StringBuilder();
        for (int i = 0; i < blocks; i++) {
            int start = 16 + 32 * i;
            run.append("get(4)=").append(start).append(' ');
            run.append("write(").append(start).append(',').append(start - 32).append(")=done ");
        }
        int last = 16 + 32 * (blocks - 1);
        run.append("lost(").append(last).append(",0)=0 ");
        run.append("lost(16,0)=").append(blocks - 1).append(' ');
        run.append("lostAt(").append(blocks - 2).append(")=").append(last);
        return run.toString();
    }

    /** The ways to a block double with each step, so each block must be followed only once. */
    private static String chainOfBlocksThatLeadToThemselves() {
        int blocks = 60;
        StringBuilder run = new StringBuilder();
        for (int i = 0; i < blocks; i++) {
            int start = 16 + 32 * i;
            run.append("get(8)=").append(start).append(' ');
            run.append("write(").append(start).append(',').append(start).append(")=done ");
            run.append("write(").append(start + 4).append(',').append(start + 32).append(")=done ");
        }
        return run.append("lost(16,0)=0 lost(48,0)=1").toString();
    }

    private static void promise10() {
        RUNS.check("10 by addresses, whatever the order in which they were made", """
            get(600)=16 get(8)=640 get(8)=672 back(16)=600 get(8)=16 lost(0,0)=3 lostAt(0)=16 lostAt(1)=640
            lostAt(2)=672 lostAt(3)=IndexOutOfBounds lost(640,0)=2 lostAt(0)=16 lostAt(1)=672
            """);
        RUNS.check("10 what came later changes nothing", """
            get(8)=16 get(8)=48 lost(0,0)=2 back(16)=8 lostAt(0)=16 lostAt(1)=48 again(48,600)=80 lostAt(1)=48
            back(80)=600 get(8)=16 get(8)=48 write(16,48)=done lostAt(0)=16 lostAt(1)=48 lostAt(2)=IndexOutOfBounds
            """);
        RUNS.check("10 of the latest lost alone", """
            get(8)=16 get(8)=48 lost(0,0)=2 lost(16,0)=1 lostAt(0)=48 lostAt(1)=IndexOutOfBounds
            lost(16,48)=0 lostAt(0)=IndexOutOfBounds
            """);
        RUNS.check("10 there is none", """
            get(8)=16 lostAt(0)=IndexOutOfBounds lost(0,0)=1 lostAt(0)=16 lostAt(-1)=IndexOutOfBounds
            lostAt(1)=IndexOutOfBounds lostAt(-2147483648)=IndexOutOfBounds lostAt(2147483647)=IndexOutOfBounds
            """);
    }

    private static void promise11() {
        RUNS.check("11 all of them", """
            get(20)=16 get(0)=64 get(7)=96 count(0)=3 count(1)=27 count(2)=0 count(3)=0 count(4)=3
            back(16)=20 count(0)=2 count(1)=7 count(2)=1 count(3)=20 count(4)=3
            again(96,9)=128 count(0)=2 count(1)=9 count(2)=2 count(3)=27 count(4)=4
            back(64)=0 count(0)=1 count(1)=9 count(2)=3 count(3)=27 get(2049)=IllegalArgument
            again(128,600)=160 count(0)=1 count(1)=600 count(2)=4 count(3)=36 count(4)=5
            back(160)=600 count(0)=0 count(1)=0 count(2)=0 count(3)=0 count(4)=5
            """);
        RUNS.check("11 others", """
            count(-1)=IllegalArgument count(5)=IllegalArgument count(-2147483648)=IllegalArgument
            count(2147483647)=IllegalArgument
            """);
    }
}
