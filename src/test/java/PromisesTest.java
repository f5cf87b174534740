/**
 * Ordinary use of each promise, and the example of README.md; TermsEdgesTest and PromiseEdgesTest have
 * the edges and the refused calls.
 */
public final class PromisesTest {
    private static final Runs RUNS = new Runs();

    public static void main(String[] args) {
        RUNS.check("1 a new object", "count(0)=0 count(2)=0 count(4)=0 kind(100)=0 block(100)=-1 lost(100,200)=0");
        RUNS.check("2 get", """
            get(20)=16 get(8)=64 get(100)=96 get(700)=224 get(12)=944 back(224)=700 get(30)=224 get(300)=272
            """);
        RUNS.check("3 back",
            "get(20)=16 get(8)=64 back(16)=20 back(64)=8 kind(16)=2 kind(64)=2 back(16)=IllegalState");
        RUNS.check("4 again", """
            get(8)=16 write(16,11)=done write(20,-12)=done again(16,40)=48 read(48)=11 read(52)=-12 read(56)=0
            kind(16)=2 kind(48)=1 again(48,6)=112 read(112)=11 read(114)=-786432 count(0)=1 count(2)=2
            """);
        RUNS.check("5 kind",
            "get(20)=16 get(8)=64 back(16)=20 kind(25)=2 kind(40)=3 kind(55)=3 kind(70)=1 kind(500)=0");
        RUNS.check("6 block", "get(20)=16 get(40)=64 block(25)=16 block(80)=64 block(55)=-1 block(500)=-1");
        RUNS.check("7 write, 8 read", """
            get(20)=16 get(8)=64 write(20,1234567)=done write(64,-5)=done read(20)=1234567 read(64)=-5 read(16)=0
            write(20,89)=done read(20)=89
            """);
        RUNS.check("9 lost, 10 lostAt", """
            get(8)=16 get(8)=48 get(8)=80 get(8)=112 write(48,112)=done write(112,20)=done write(16,48)=done
            lost(48,0)=1 lostAt(0)=80 lost(80,0)=3 lostAt(0)=16 lostAt(1)=48 lostAt(2)=112 write(84,55)=done
            lost(0,80)=0
            """);
        RUNS.check("11 count", """
            get(20)=16 get(0)=64 get(7)=96 count(0)=3 count(1)=27 count(2)=0 count(3)=0 count(4)=3
            back(16)=20 count(0)=2 count(1)=7 count(2)=1 count(3)=20 count(4)=3
            again(96,9)=128 count(0)=2 count(1)=9 count(2)=2 count(3)=27 count(4)=4
            """);
        RUNS.check("the example of README.md", """
            get(20)=16 get(8)=64 write(16,64)=done lost(16,0)=0 write(16,0)=done lost(16,0)=1 lostAt(0)=64
            again(16,40)=96 block(135)=96 back(64)=8 kind(64)=2 count(2)=2
            """);
        RUNS.end();
    }
}
