/** The runs that README.md shows, with what it says that they answer. */
public final class ReadmeTest {
    private static final Due due = new Due();

    public static void main(String[] args) {
        FourWayKernel kernel = new FourWayKernel();
        due.is("thread", kernel.thread(0), 0);
        due.is("map", kernel.map(0, 2, 2, true), 0);
        due.is("store", kernel.store(0, 2, 55), 1);
        due.is("step", kernel.step(0), 2);
        due.is("run", kernel.run(0, 10), 2);
        due.is("result of the map", kernel.result(0, 0), 2);
        due.is("word", kernel.word(0), 55);

        due.is("second thread", kernel.thread(1), 1);
        due.is("load", kernel.load(1, 2), 0);
        due.is("run of processor 1", kernel.run(0x155, 5), 1);
        due.is("result of the load", kernel.result(1, 0), 55);
        due.is("translation", kernel.translation(1, 2), 1);
        due.is("unmap", kernel.unmap(0, 2, 1), 2);
        due.is("run of processor 0", kernel.run(0, 9), 0);
        due.is("phase", kernel.phase(0), 12);
        due.is("mail", kernel.mail(1), 1);
        due.is("run of 1, 2, 3 and thrice 0", kernel.run(0x39, 6), 1);
        due.is("translation is gone", kernel.translation(1, 2), FourWayKernel.NONE);
        due.is("store-room", kernel.spare(0), 1);
        due.end();
    }
}
